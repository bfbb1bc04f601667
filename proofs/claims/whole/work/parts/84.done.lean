theorem ra_L {f : Int32} {rz : Int64} {pl : Nat → Option Nat} {P : cQ} {md : Int32} {tl : Nat → Int32} {Y : rY} {r : Int64} {Y' : rY} {pa' tl' : Nat → Int32} {wr' tw' : Int32} (h : rAns f rz pl P md tl Y r Y' pa' tl' wr' tw') : (Y.2.2.2.2.2.2.2.1 ≤ Y'.2.2.2.2.2.2.2.1 ∧ Y.2.2.2.2.2.2.2.2.1 ≤ Y'.2.2.2.2.2.2.2.2.1) ∧ (Y'.2.2.2.2.2.2.2.1 ≤ 96000 ∧ Y'.2.2.2.2.2.2.2.2.1 ≤ 1542237) := by
  obtain ⟨_, _, _, h4, ρ, h5⟩ := h
  exact ⟨h4, rl_L h5.1⟩
theorem w_out {w : Int32} (n0 : ¬ w = 0) (n1 : ¬ w = 1) (n2 : ¬ w = 2) (n3 : ¬ w = 3) (n4 : ¬ w = 4) (n5 : ¬ w = 5) (n6 : ¬ w = 6) (n7 : ¬ w = 7) (n8 : ¬ w = 8) (n9 : ¬ w = 9) (n10 : ¬ w = 10) (n11 : ¬ w = 11) (n12 : ¬ w = 12) (n13 : ¬ w = 13) (n14 : ¬ w = 14) (n15 : ¬ w = 15) (n16 : ¬ w = 16) (n17 : ¬ w = 17) (n18 : ¬ w = 18) (n19 : ¬ w = 19) (n20 : ¬ w = 20) (n21 : ¬ w = 21) (n22 : ¬ w = 22) (n23 : ¬ w = 23) (n24 : ¬ w = 24) (n25 : ¬ w = 25) (n26 : ¬ w = 26) (n27 : ¬ w = 27) (n28 : ¬ w = 28) (n29 : ¬ w = 29) (n30 : ¬ w = 30) (n31 : ¬ w = 31) : w < 0 ∨ ¬ w ≤ 31 := by
  by_cases h0 : w < 0
  · exact Or.inl h0
  · refine Or.inr (fun h1 => ?_)
    have hv : vp_in w 32 := i32_in (nn_of h0) (by have := i32_le h1; have e : (31 : Int32).toNatClampNeg = 31 := (by decide); omega)
    obtain ⟨e, hl⟩ := i32_nI hv
    generalize w.toNatClampNeg = m at e hl
    subst e
    have hx : m = 0 ∨ m = 1 ∨ m = 2 ∨ m = 3 ∨ m = 4 ∨ m = 5 ∨ m = 6 ∨ m = 7 ∨ m = 8 ∨ m = 9 ∨ m = 10 ∨ m = 11 ∨ m = 12 ∨ m = 13 ∨ m = 14 ∨ m = 15 ∨ m = 16 ∨ m = 17 ∨ m = 18 ∨ m = 19 ∨ m = 20 ∨ m = 21 ∨ m = 22 ∨ m = 23 ∨ m = 24 ∨ m = 25 ∨ m = 26 ∨ m = 27 ∨ m = 28 ∨ m = 29 ∨ m = 30 ∨ m = 31 := by omega
    rcases hx with rfl | rfl | rfl | rfl | rfl | rfl | rfl | rfl | rfl | rfl | rfl | rfl | rfl | rfl | rfl | rfl | rfl | rfl | rfl | rfl | rfl | rfl | rfl | rfl | rfl | rfl | rfl | rfl | rfl | rfl | rfl | rfl
    · exact n0 rfl
    · exact n1 rfl
    · exact n2 rfl
    · exact n3 rfl
    · exact n4 rfl
    · exact n5 rfl
    · exact n6 rfl
    · exact n7 rfl
    · exact n8 rfl
    · exact n9 rfl
    · exact n10 rfl
    · exact n11 rfl
    · exact n12 rfl
    · exact n13 rfl
    · exact n14 rfl
    · exact n15 rfl
    · exact n16 rfl
    · exact n17 rfl
    · exact n18 rfl
    · exact n19 rfl
    · exact n20 rfl
    · exact n21 rfl
    · exact n22 rfl
    · exact n23 rfl
    · exact n24 rfl
    · exact n25 rfl
    · exact n26 rfl
    · exact n27 rfl
    · exact n28 rfl
    · exact n29 rfl
    · exact n30 rfl
    · exact n31 rfl
def q_X11_an (w0 a0 b0 c0 : Int32) (pl : Nat → Option Nat) (ac : Int64) (ft md : Int32) (Z : cZ) (P : cQ) (rz : Int64) (u : (Nat → Option Nat) × Int32 × Int32 × cQ) : Prop := (∃ u8 : (Nat → Option Nat) × Int32 × Int32 × cQ, (u8.1, u8.2.1, u8.2.2.1, u8.2.2.2) = u ∧ w0 = 0 ∧ q_X11_makeRow a0 b0 c0 pl ac ft md Z P rz u8) ∨ (∃ u8 : Int32, (pl, u8, md, P) = u ∧ w0 = 1 ∧ q_X11_rowCell a0 b0 c0 pl ac ft md Z P rz u8) ∨ (∃ u8 : Int32 × cQ, (pl, u8.1, md, u8.2) = u ∧ w0 = 2 ∧ q_X11_setRowCell a0 b0 c0 pl ac ft md Z P rz u8) ∨ (∃ u8 : Int32, (pl, u8, md, P) = u ∧ w0 = 3 ∧ q_X11_rowLength a0 b0 pl ac ft md Z P rz u8) ∨ (∃ u8 : (Nat → Option Nat) × Int32 × Int32 × cQ, (u8.1, u8.2.1, u8.2.2.1, u8.2.2.2) = u ∧ w0 = 4 ∧ q_X11_makeSheet a0 b0 c0 pl ac ft md Z P rz u8) ∨ (∃ u8 : Int32, (pl, u8, md, P) = u ∧ w0 = 5 ∧ q_X11_o5 a0 b0 c0 pl ac ft md Z P rz u8) ∨ (∃ u8 : Int32 × cQ, (pl, u8.1, md, u8.2) = u ∧ w0 = 6 ∧ q_X11_o6 a0 b0 c0 pl ac ft md Z P rz u8) ∨ (∃ u8 : (Nat → Option Nat) × Int32, (u8.1, u8.2, md, P) = u ∧ w0 = 7 ∧ q_X11_takeOut 8 a0 b0 c0 pl ac ft md Z P rz u8) ∨ (∃ u8 : Int32 × cQ, (pl, u8.1, md, u8.2) = u ∧ w0 = 8 ∧ q_X11_putIn 8 0 a0 b0 c0 pl ac ft md Z P rz u8) ∨ (∃ u8 : (Nat → Option Nat) × Int32 × Int32 × cQ, (u8.1, u8.2.1, u8.2.2.1, u8.2.2.2) = u ∧ w0 = 9 ∧ q_X11_makeCase a0 b0 c0 pl ac ft md Z P rz u8) ∨ (∃ u8 : Int32 × cQ, (pl, u8.1, md, u8.2) = u ∧ w0 = 10 ∧ q_X11_putIn 9 12 a0 b0 c0 pl ac ft md Z P rz u8) ∨ (∃ u8 : Int32 × cQ, (pl, u8.1, md, u8.2) = u ∧ w0 = 11 ∧ q_X11_putIn 11 14 a0 b0 c0 pl ac ft md Z P rz u8) ∨ (∃ u8 : (Nat → Option Nat) × Int32, (u8.1, u8.2, md, P) = u ∧ w0 = 12 ∧ q_X11_takeOut 9 a0 b0 c0 pl ac ft md Z P rz u8) ∨ (∃ u8 : (Nat → Option Nat) × Int32 × Int32 × cQ, (u8.1, u8.2.1, u8.2.2.1, u8.2.2.2) = u ∧ w0 = 13 ∧ q_X11_makeBox a0 b0 pl ac ft md Z P rz u8) ∨ (∃ u8 : (Nat → Option Nat) × Int32 × Int32 × cQ, (u8.1, u8.2.1, u8.2.2.1, u8.2.2.2) = u ∧ w0 = 14 ∧ q_X11_makeLetter a0 b0 pl ac ft md Z P rz u8) ∨ (∃ u8 : Int32, (pl, u8, md, P) = u ∧ w0 = 15 ∧ q_X11_boxValue a0 pl ac ft md Z P rz u8) ∨ (∃ u8 : Int32 × cQ, (pl, u8.1, md, u8.2) = u ∧ w0 = 16 ∧ q_X11_changeBox a0 pl ac ft md Z P rz u8) ∨ (∃ u8 : Int32 × cQ, (pl, u8.1, md, u8.2) = u ∧ w0 = 17 ∧ q_X11_linkBox a0 b0 pl ac ft md Z P rz u8) ∨ (∃ u8 : (Nat → Option Nat) × Int32, (u8.1, u8.2, md, P) = u ∧ w0 = 18 ∧ q_X11_followBox a0 b0 pl ac ft md Z P rz u8) ∨ (∃ u8 : Int32, (pl, u8, md, P) = u ∧ w0 = 19 ∧ q_X11_weigh a0 b0 pl ac ft md Z P rz u8) ∨ (∃ u8 : Int32, (pl, u8, md, P) = u ∧ w0 = 20 ∧ q_X11_roll a0 b0 pl ac ft md Z P rz u8) ∨ (∃ u8 : Int32, (pl, u8, md, P) = u ∧ w0 = 21 ∧ q_X11_rim a0 pl ac ft md Z P rz u8) ∨ (∃ u8 : Int32, (pl, u8, md, P) = u ∧ w0 = 22 ∧ q_X11_o22 b0 pl ac ft md Z P rz u8) ∨ (∃ u8 : Int32, (pl, u8, md, P) = u ∧ w0 = 23 ∧ q_X11_o23 b0 pl ac ft md Z P rz u8) ∨ (∃ u8 : Int32, (pl, u8, md, P) = u ∧ w0 = 24 ∧ q_X11_o24 b0 pl ac ft md Z P rz u8) ∨ (∃ u8 : Int32, (pl, u8, md, P) = u ∧ w0 = 25 ∧ q_X11_o25 b0 pl ac ft md Z P rz u8) ∨ (∃ u8 : Int32, (pl, u8, md, P) = u ∧ w0 = 26 ∧ q_X11_raise a0 pl ac ft md Z P rz u8) ∨ (∃ u8 : Int32, (pl, u8, md, P) = u ∧ w0 = 27 ∧ q_X11_holdsSort a0 b0 pl ac ft md Z P rz u8) ∨ (∃ u8 : (Nat → Option Nat) × Int32, (u8.1, u8.2, md, P) = u ∧ w0 = 28 ∧ q_X11_clear a0 pl ac ft md Z P rz u8) ∨ (∃ u8 : (Nat → Option Nat) × Int32, (u8.1, u8.2, md, P) = u ∧ w0 = 29 ∧ q_X11_move a0 b0 pl ac ft md Z P rz u8) ∨ (∃ u8 : Int32, (pl, u8, md, P) = u ∧ w0 = 30 ∧ q_X11_holdSame a0 b0 pl ac ft md Z P rz u8) ∨ (∃ u8 : Int32 × cQ, (pl, u8.1, md, u8.2) = u ∧ w0 = 31 ∧ q_X11_copy a0 b0 c0 pl ac ft md Z P rz u8) ∨ ((-1) = rz ∧ (pl, ft, md, P) = u ∧ ¬ w0 = 0 ∧ ¬ w0 = 1 ∧ ¬ w0 = 2 ∧ ¬ w0 = 3 ∧ ¬ w0 = 4 ∧ ¬ w0 = 5 ∧ ¬ w0 = 6 ∧ ¬ w0 = 7 ∧ ¬ w0 = 8 ∧ ¬ w0 = 9 ∧ ¬ w0 = 10 ∧ ¬ w0 = 11 ∧ ¬ w0 = 12 ∧ ¬ w0 = 13 ∧ ¬ w0 = 14 ∧ ¬ w0 = 15 ∧ ¬ w0 = 16 ∧ ¬ w0 = 17 ∧ ¬ w0 = 18 ∧ ¬ w0 = 19 ∧ ¬ w0 = 20 ∧ ¬ w0 = 21 ∧ ¬ w0 = 22 ∧ ¬ w0 = 23 ∧ ¬ w0 = 24 ∧ ¬ w0 = 25 ∧ ¬ w0 = 26 ∧ ¬ w0 = 27 ∧ ¬ w0 = 28 ∧ ¬ w0 = 29 ∧ ¬ w0 = 30 ∧ ¬ w0 = 31)
theorem an_group {w0 a0 b0 c0 : Int32} {pl : Nat → Option Nat} {ac : Int64} {ft md : Int32} {Z : cZ} {P : cQ} {rz : Int64} {u : (Nat → Option Nat) × Int32 × Int32 × cQ} (h : q_X11_answerOf w0 a0 b0 c0 pl ac ft md Z P rz u) : q_X11_an w0 a0 b0 c0 pl ac ft md Z P rz u := by
  rcases h with ⟨x_r9, x_u9, g0, g1, g2, g3⟩ | ⟨x_r9, x_u9, g0, g1, g2, g3⟩ | ⟨x_r9, x_u9, g0, g1, g2, g3⟩ | ⟨x_r9, x_u9, g0, g1, g2, g3⟩ | ⟨x_r9, x_u9, g0, g1, g2, g3⟩ | ⟨g0, g1, g2, g3⟩ | ⟨x_t, g0, g1, g2, g3, g4, g5⟩ | ⟨g0, g1, g2, g3, g4⟩ | ⟨x_t, x_y, g0, g1, g2, g3, g4, g5, g6, g7⟩ | ⟨x_t, x_y, g0, g1, g2, g3, g4, g5, g6, g7, g8⟩ | ⟨x_t, x_y, x_q, x_z, g0, g1, g2, g3, g4, g5, g6, g7, g8, g9, g10⟩ | ⟨x_t, x_y, x_q, x_z, g0, g1, g2, g3, g4, g5, g6, g7, g8, g9, g10, g11, g12⟩ | ⟨g0, g1, g2, g3⟩ | ⟨x_t, g0, g1, g2, g3, g4, g5⟩ | ⟨g0, g1, g2, g3, g4⟩ | ⟨x_t, x_y, g0, g1, g2, g3, g4, g5, g6, g7⟩ | ⟨x_t, x_y, g0, g1, g2, g3, g4, g5, g6, g7, g8⟩ | ⟨x_t, x_y, x_q, x_z, g0, g1, g2, g3, g4, g5, g6, g7, g8, g9, g10⟩ | ⟨x_t, x_y, x_q, x_z, g0, g1, g2, g3, g4, g5, g6, g7, g8, g9, g10, g11, g12⟩ | ⟨x_r9, x_u9, g0, g1, g2, g3⟩ | ⟨x_r9, x_u9, g0, g1, g2, g3⟩ | ⟨x_r9, x_u9, g0, g1, g2, g3⟩ | ⟨x_r9, x_u9, g0, g1, g2, g3⟩ | ⟨x_r9, x_u9, g0, g1, g2, g3⟩ | ⟨x_r9, x_u9, g0, g1, g2, g3⟩ | ⟨x_r9, x_u9, g0, g1, g2, g3⟩ | ⟨x_r9, x_u9, g0, g1, g2, g3⟩ | ⟨x_r9, x_u9, g0, g1, g2, g3⟩ | ⟨x_r9, x_u9, g0, g1, g2, g3⟩ | ⟨x_r9, x_u9, g0, g1, g2, g3⟩ | ⟨x_r9, x_u9, g0, g1, g2, g3⟩ | ⟨x_r9, x_u9, g0, g1, g2, g3⟩ | ⟨x_r9, x_u9, g0, g1, g2, g3⟩ | ⟨x_r9, x_u9, g0, g1, g2, g3⟩ | ⟨g0, g1, g2, g3⟩ | ⟨g0, g1, g2, g3⟩ | ⟨g0, g1, g2, g3⟩ | ⟨g0, g1, g2, g3⟩ | ⟨g0, g1, g2, g3⟩ | ⟨g0, g1, g2, g3⟩ | ⟨g0, g1, g2, g3⟩ | ⟨g0, g1, g2, g3⟩ | ⟨x_r9, x_u9, g0, g1, g2, g3⟩ | ⟨x_r9, x_u9, g0, g1, g2, g3⟩ | ⟨x_r9, x_u9, g0, g1, g2, g3⟩ | ⟨x_r9, x_u9, g0, g1, g2, g3⟩ | ⟨x_r9, x_u9, g0, g1, g2, g3⟩ | ⟨x_r9, x_u9, g0, g1, g2, g3⟩ | ⟨g0, g1, g2, g3, g4, g5, g6, g7, g8, g9, g10, g11, g12, g13, g14, g15, g16, g17, g18, g19, g20, g21, g22, g23, g24, g25, g26, g27, g28, g29, g30, g31, g32, g33⟩
  · subst g0; exact Or.inl ⟨_, g1, g2, g3⟩
  · subst g0; exact Or.inr (Or.inl ⟨_, g1, g2, g3⟩)
  · subst g0; exact Or.inr (Or.inr (Or.inl ⟨_, g1, g2, g3⟩))
  · subst g0; exact Or.inr (Or.inr (Or.inr (Or.inl ⟨_, g1, g2, g3⟩)))
  · subst g0; exact Or.inr (Or.inr (Or.inr (Or.inr (Or.inl ⟨_, g1, g2, g3⟩))))
  · exact Or.inr (Or.inr (Or.inr (Or.inr (Or.inr (Or.inl ⟨2, g1, g2, Or.inl ⟨g0, rfl, g3⟩⟩)))))
  · exact Or.inr (Or.inr (Or.inr (Or.inr (Or.inr (Or.inl ⟨3, g1, g2, Or.inr (Or.inl ⟨x_t, g0, rfl, g3, g4, g5⟩)⟩)))))
  · exact Or.inr (Or.inr (Or.inr (Or.inr (Or.inr (Or.inl ⟨1, g1, g2, Or.inr (Or.inr (Or.inl ⟨g0, rfl, g3, g4⟩))⟩)))))
  · exact Or.inr (Or.inr (Or.inr (Or.inr (Or.inr (Or.inl ⟨2, g1, g2, Or.inr (Or.inr (Or.inr (Or.inl ⟨x_t, x_y, g0, rfl, g3, g4, g5, g6, g7⟩)))⟩)))))
  · exact Or.inr (Or.inr (Or.inr (Or.inr (Or.inr (Or.inl ⟨1, g1, g2, Or.inr (Or.inr (Or.inr (Or.inr (Or.inl ⟨x_t, x_y, g0, rfl, g3, g4, g5, g6, g7, g8⟩))))⟩)))))
  · exact Or.inr (Or.inr (Or.inr (Or.inr (Or.inr (Or.inl ⟨2, g1, g2, Or.inr (Or.inr (Or.inr (Or.inr (Or.inr (Or.inl ⟨x_t, x_y, x_q, x_z, g0, rfl, g3, g4, g5, g6, g7, g8, g9, g10⟩)))))⟩)))))
  · exact Or.inr (Or.inr (Or.inr (Or.inr (Or.inr (Or.inl ⟨ft, g1, g2, Or.inr (Or.inr (Or.inr (Or.inr (Or.inr (Or.inr ⟨x_t, x_y, x_q, x_z, g0, rfl, g3, g4, g5, g6, g7, g8, g9, g10, g11, g12⟩)))))⟩)))))
  · exact Or.inr (Or.inr (Or.inr (Or.inr (Or.inr (Or.inr (Or.inl ⟨(2, P), g1, g2, Or.inl ⟨g0, rfl, g3⟩⟩))))))
  · exact Or.inr (Or.inr (Or.inr (Or.inr (Or.inr (Or.inr (Or.inl ⟨(3, P), g1, g2, Or.inr (Or.inl ⟨x_t, g0, rfl, g3, g4, g5⟩)⟩))))))
  · exact Or.inr (Or.inr (Or.inr (Or.inr (Or.inr (Or.inr (Or.inl ⟨(1, P), g1, g2, Or.inr (Or.inr (Or.inl ⟨g0, rfl, g3, g4⟩))⟩))))))
  · exact Or.inr (Or.inr (Or.inr (Or.inr (Or.inr (Or.inr (Or.inl ⟨(2, P), g1, g2, Or.inr (Or.inr (Or.inr (Or.inl ⟨x_t, x_y, g0, rfl, g3, g4, g5, g6, g7⟩)))⟩))))))
  · exact Or.inr (Or.inr (Or.inr (Or.inr (Or.inr (Or.inr (Or.inl ⟨(1, P), g1, g2, Or.inr (Or.inr (Or.inr (Or.inr (Or.inl ⟨x_t, x_y, g0, rfl, g3, g4, g5, g6, g7, g8⟩))))⟩))))))
  · exact Or.inr (Or.inr (Or.inr (Or.inr (Or.inr (Or.inr (Or.inl ⟨(2, P), g1, g2, Or.inr (Or.inr (Or.inr (Or.inr (Or.inr (Or.inl ⟨x_t, x_y, x_q, x_z, g0, rfl, g3, g4, g5, g6, g7, g8, g9, g10⟩)))))⟩))))))
  · exact Or.inr (Or.inr (Or.inr (Or.inr (Or.inr (Or.inr (Or.inl ⟨(ft, pLc P x_z (vp_updL (P.2.2.2.2.2.2.1 x_z) c0.toNatClampNeg (aCell (P.2.2.1 x_q) ac))), g1, g2, Or.inr (Or.inr (Or.inr (Or.inr (Or.inr (Or.inr ⟨x_t, x_y, x_q, x_z, g0, rfl, g3, g4, g5, g6, g7, g8, g9, g10, g11, g12⟩)))))⟩))))))
  · subst g0; exact Or.inr (Or.inr (Or.inr (Or.inr (Or.inr (Or.inr (Or.inr (Or.inl ⟨_, g1, g2, g3⟩)))))))
  · subst g0; exact Or.inr (Or.inr (Or.inr (Or.inr (Or.inr (Or.inr (Or.inr (Or.inr (Or.inl ⟨_, g1, g2, g3⟩))))))))
  · subst g0; exact Or.inr (Or.inr (Or.inr (Or.inr (Or.inr (Or.inr (Or.inr (Or.inr (Or.inr (Or.inl ⟨_, g1, g2, g3⟩)))))))))
  · subst g0; exact Or.inr (Or.inr (Or.inr (Or.inr (Or.inr (Or.inr (Or.inr (Or.inr (Or.inr (Or.inr (Or.inl ⟨_, g1, g2, g3⟩))))))))))
  · subst g0; exact Or.inr (Or.inr (Or.inr (Or.inr (Or.inr (Or.inr (Or.inr (Or.inr (Or.inr (Or.inr (Or.inr (Or.inl ⟨_, g1, g2, g3⟩)))))))))))
  · subst g0; exact Or.inr (Or.inr (Or.inr (Or.inr (Or.inr (Or.inr (Or.inr (Or.inr (Or.inr (Or.inr (Or.inr (Or.inr (Or.inl ⟨_, g1, g2, g3⟩))))))))))))
  · subst g0; exact Or.inr (Or.inr (Or.inr (Or.inr (Or.inr (Or.inr (Or.inr (Or.inr (Or.inr (Or.inr (Or.inr (Or.inr (Or.inr (Or.inl ⟨_, g1, g2, g3⟩)))))))))))))
  · subst g0; exact Or.inr (Or.inr (Or.inr (Or.inr (Or.inr (Or.inr (Or.inr (Or.inr (Or.inr (Or.inr (Or.inr (Or.inr (Or.inr (Or.inr (Or.inl ⟨_, g1, g2, g3⟩))))))))))))))
  · subst g0; exact Or.inr (Or.inr (Or.inr (Or.inr (Or.inr (Or.inr (Or.inr (Or.inr (Or.inr (Or.inr (Or.inr (Or.inr (Or.inr (Or.inr (Or.inr (Or.inl ⟨_, g1, g2, g3⟩)))))))))))))))
  · subst g0; exact Or.inr (Or.inr (Or.inr (Or.inr (Or.inr (Or.inr (Or.inr (Or.inr (Or.inr (Or.inr (Or.inr (Or.inr (Or.inr (Or.inr (Or.inr (Or.inr (Or.inl ⟨_, g1, g2, g3⟩))))))))))))))))
  · subst g0; exact Or.inr (Or.inr (Or.inr (Or.inr (Or.inr (Or.inr (Or.inr (Or.inr (Or.inr (Or.inr (Or.inr (Or.inr (Or.inr (Or.inr (Or.inr (Or.inr (Or.inr (Or.inl ⟨_, g1, g2, g3⟩)))))))))))))))))
  · subst g0; exact Or.inr (Or.inr (Or.inr (Or.inr (Or.inr (Or.inr (Or.inr (Or.inr (Or.inr (Or.inr (Or.inr (Or.inr (Or.inr (Or.inr (Or.inr (Or.inr (Or.inr (Or.inr (Or.inl ⟨_, g1, g2, g3⟩))))))))))))))))))
  · subst g0; exact Or.inr (Or.inr (Or.inr (Or.inr (Or.inr (Or.inr (Or.inr (Or.inr (Or.inr (Or.inr (Or.inr (Or.inr (Or.inr (Or.inr (Or.inr (Or.inr (Or.inr (Or.inr (Or.inr (Or.inl ⟨_, g1, g2, g3⟩)))))))))))))))))))
  · subst g0; exact Or.inr (Or.inr (Or.inr (Or.inr (Or.inr (Or.inr (Or.inr (Or.inr (Or.inr (Or.inr (Or.inr (Or.inr (Or.inr (Or.inr (Or.inr (Or.inr (Or.inr (Or.inr (Or.inr (Or.inr (Or.inl ⟨_, g1, g2, g3⟩))))))))))))))))))))
  · subst g0; exact Or.inr (Or.inr (Or.inr (Or.inr (Or.inr (Or.inr (Or.inr (Or.inr (Or.inr (Or.inr (Or.inr (Or.inr (Or.inr (Or.inr (Or.inr (Or.inr (Or.inr (Or.inr (Or.inr (Or.inr (Or.inr (Or.inl ⟨_, g1, g2, g3⟩)))))))))))))))))))))
  · exact Or.inr (Or.inr (Or.inr (Or.inr (Or.inr (Or.inr (Or.inr (Or.inr (Or.inr (Or.inr (Or.inr (Or.inr (Or.inr (Or.inr (Or.inr (Or.inr (Or.inr (Or.inr (Or.inr (Or.inr (Or.inr (Or.inr (Or.inl ⟨0, g1, g2, Or.inl ⟨g0, rfl, g3⟩⟩))))))))))))))))))))))
  · exact Or.inr (Or.inr (Or.inr (Or.inr (Or.inr (Or.inr (Or.inr (Or.inr (Or.inr (Or.inr (Or.inr (Or.inr (Or.inr (Or.inr (Or.inr (Or.inr (Or.inr (Or.inr (Or.inr (Or.inr (Or.inr (Or.inr (Or.inl ⟨ft, g1, g2, Or.inr ⟨g0, rfl, g3⟩⟩))))))))))))))))))))))
  · exact Or.inr (Or.inr (Or.inr (Or.inr (Or.inr (Or.inr (Or.inr (Or.inr (Or.inr (Or.inr (Or.inr (Or.inr (Or.inr (Or.inr (Or.inr (Or.inr (Or.inr (Or.inr (Or.inr (Or.inr (Or.inr (Or.inr (Or.inr (Or.inl ⟨0, g1, g2, Or.inl ⟨g0, rfl, g3⟩⟩)))))))))))))))))))))))
  · exact Or.inr (Or.inr (Or.inr (Or.inr (Or.inr (Or.inr (Or.inr (Or.inr (Or.inr (Or.inr (Or.inr (Or.inr (Or.inr (Or.inr (Or.inr (Or.inr (Or.inr (Or.inr (Or.inr (Or.inr (Or.inr (Or.inr (Or.inr (Or.inl ⟨ft, g1, g2, Or.inr ⟨g0, rfl, g3⟩⟩)))))))))))))))))))))))
  · exact Or.inr (Or.inr (Or.inr (Or.inr (Or.inr (Or.inr (Or.inr (Or.inr (Or.inr (Or.inr (Or.inr (Or.inr (Or.inr (Or.inr (Or.inr (Or.inr (Or.inr (Or.inr (Or.inr (Or.inr (Or.inr (Or.inr (Or.inr (Or.inr (Or.inl ⟨0, g1, g2, Or.inl ⟨g0, rfl, g3⟩⟩))))))))))))))))))))))))
  · exact Or.inr (Or.inr (Or.inr (Or.inr (Or.inr (Or.inr (Or.inr (Or.inr (Or.inr (Or.inr (Or.inr (Or.inr (Or.inr (Or.inr (Or.inr (Or.inr (Or.inr (Or.inr (Or.inr (Or.inr (Or.inr (Or.inr (Or.inr (Or.inr (Or.inl ⟨ft, g1, g2, Or.inr ⟨g0, rfl, g3⟩⟩))))))))))))))))))))))))
  · exact Or.inr (Or.inr (Or.inr (Or.inr (Or.inr (Or.inr (Or.inr (Or.inr (Or.inr (Or.inr (Or.inr (Or.inr (Or.inr (Or.inr (Or.inr (Or.inr (Or.inr (Or.inr (Or.inr (Or.inr (Or.inr (Or.inr (Or.inr (Or.inr (Or.inr (Or.inl ⟨0, g1, g2, Or.inl ⟨g0, rfl, g3⟩⟩)))))))))))))))))))))))))
  · exact Or.inr (Or.inr (Or.inr (Or.inr (Or.inr (Or.inr (Or.inr (Or.inr (Or.inr (Or.inr (Or.inr (Or.inr (Or.inr (Or.inr (Or.inr (Or.inr (Or.inr (Or.inr (Or.inr (Or.inr (Or.inr (Or.inr (Or.inr (Or.inr (Or.inr (Or.inl ⟨ft, g1, g2, Or.inr ⟨g0, rfl, g3⟩⟩)))))))))))))))))))))))))
  · subst g0; exact Or.inr (Or.inr (Or.inr (Or.inr (Or.inr (Or.inr (Or.inr (Or.inr (Or.inr (Or.inr (Or.inr (Or.inr (Or.inr (Or.inr (Or.inr (Or.inr (Or.inr (Or.inr (Or.inr (Or.inr (Or.inr (Or.inr (Or.inr (Or.inr (Or.inr (Or.inr (Or.inl ⟨_, g1, g2, g3⟩))))))))))))))))))))))))))
  · subst g0; exact Or.inr (Or.inr (Or.inr (Or.inr (Or.inr (Or.inr (Or.inr (Or.inr (Or.inr (Or.inr (Or.inr (Or.inr (Or.inr (Or.inr (Or.inr (Or.inr (Or.inr (Or.inr (Or.inr (Or.inr (Or.inr (Or.inr (Or.inr (Or.inr (Or.inr (Or.inr (Or.inr (Or.inl ⟨_, g1, g2, g3⟩)))))))))))))))))))))))))))
  · subst g0; exact Or.inr (Or.inr (Or.inr (Or.inr (Or.inr (Or.inr (Or.inr (Or.inr (Or.inr (Or.inr (Or.inr (Or.inr (Or.inr (Or.inr (Or.inr (Or.inr (Or.inr (Or.inr (Or.inr (Or.inr (Or.inr (Or.inr (Or.inr (Or.inr (Or.inr (Or.inr (Or.inr (Or.inr (Or.inl ⟨_, g1, g2, g3⟩))))))))))))))))))))))))))))
  · subst g0; exact Or.inr (Or.inr (Or.inr (Or.inr (Or.inr (Or.inr (Or.inr (Or.inr (Or.inr (Or.inr (Or.inr (Or.inr (Or.inr (Or.inr (Or.inr (Or.inr (Or.inr (Or.inr (Or.inr (Or.inr (Or.inr (Or.inr (Or.inr (Or.inr (Or.inr (Or.inr (Or.inr (Or.inr (Or.inr (Or.inl ⟨_, g1, g2, g3⟩)))))))))))))))))))))))))))))
  · subst g0; exact Or.inr (Or.inr (Or.inr (Or.inr (Or.inr (Or.inr (Or.inr (Or.inr (Or.inr (Or.inr (Or.inr (Or.inr (Or.inr (Or.inr (Or.inr (Or.inr (Or.inr (Or.inr (Or.inr (Or.inr (Or.inr (Or.inr (Or.inr (Or.inr (Or.inr (Or.inr (Or.inr (Or.inr (Or.inr (Or.inr (Or.inl ⟨_, g1, g2, g3⟩))))))))))))))))))))))))))))))
  · subst g0; exact Or.inr (Or.inr (Or.inr (Or.inr (Or.inr (Or.inr (Or.inr (Or.inr (Or.inr (Or.inr (Or.inr (Or.inr (Or.inr (Or.inr (Or.inr (Or.inr (Or.inr (Or.inr (Or.inr (Or.inr (Or.inr (Or.inr (Or.inr (Or.inr (Or.inr (Or.inr (Or.inr (Or.inr (Or.inr (Or.inr (Or.inr (Or.inl ⟨_, g1, g2, g3⟩)))))))))))))))))))))))))))))))
  · exact Or.inr (Or.inr (Or.inr (Or.inr (Or.inr (Or.inr (Or.inr (Or.inr (Or.inr (Or.inr (Or.inr (Or.inr (Or.inr (Or.inr (Or.inr (Or.inr (Or.inr (Or.inr (Or.inr (Or.inr (Or.inr (Or.inr (Or.inr (Or.inr (Or.inr (Or.inr (Or.inr (Or.inr (Or.inr (Or.inr (Or.inr (Or.inr ⟨g0, g1, g2, g3, g4, g5, g6, g7, g8, g9, g10, g11, g12, g13, g14, g15, g16, g17, g18, g19, g20, g21, g22, g23, g24, g25, g26, g27, g28, g29, g30, g31, g32, g33⟩)))))))))))))))))))))))))))))))
theorem full_makeRow {a0 : Int32} {b0 : Int32} {c0 : Int32} {pl : Nat → Option Nat} {ac : Int64} {ft : Int32} {md : Int32} {Z : cZ} {P : cQ} {rz : Int64} {u : (Nat → Option Nat) × Int32 × Int32 × cQ} (h : q_X11_makeRow a0 b0 c0 pl ac ft md Z P rz u) (hm : ¬ md < 6000) : u = (pl, 6, md, P) := by
  rcases h with ⟨_, rfl, g2⟩ | ⟨_, rfl, g2, g3⟩ | ⟨_, rfl, g2, g3, g4⟩ | ⟨x_q, x_y, _, rfl, g2, g3, g4, g5, g6, g7⟩
  · rfl
  · exact absurd (by assumption) hm
  · exact absurd (by assumption) hm
  · exact absurd (by assumption) hm
theorem full_makeSheet {a0 : Int32} {b0 : Int32} {c0 : Int32} {pl : Nat → Option Nat} {ac : Int64} {ft : Int32} {md : Int32} {Z : cZ} {P : cQ} {rz : Int64} {u : (Nat → Option Nat) × Int32 × Int32 × cQ} (h : q_X11_makeSheet a0 b0 c0 pl ac ft md Z P rz u) (hm : ¬ md < 6000) : u = (pl, 6, md, P) := by
  rcases h with ⟨_, rfl, g2⟩ | ⟨_, rfl, g2, g3⟩ | ⟨_, rfl, g2, g3, g4⟩ | ⟨_, rfl, g2, g3, g4, g5⟩ | ⟨x_q, x_y, x_P9, _, rfl, g2, g3, g4, g5, g6, g7, g8, g9⟩
  · rfl
  · exact absurd (by assumption) hm
  · exact absurd (by assumption) hm
  · exact absurd (by assumption) hm
  · exact absurd (by assumption) hm
theorem full_makeCase {a0 : Int32} {b0 : Int32} {c0 : Int32} {pl : Nat → Option Nat} {ac : Int64} {ft : Int32} {md : Int32} {Z : cZ} {P : cQ} {rz : Int64} {u : (Nat → Option Nat) × Int32 × Int32 × cQ} (h : q_X11_makeCase a0 b0 c0 pl ac ft md Z P rz u) (hm : ¬ md < 6000) : u = (pl, 6, md, P) := by
  rcases h with ⟨_, rfl, g2⟩ | ⟨_, rfl, g2, g3⟩ | ⟨_, rfl, g2, g3, g4⟩ | ⟨x_q, x_y, _, rfl, g2, g3, g4, g5, g6, g7, g8⟩ | ⟨x_q, x_y, _, rfl, g2, g3, g4, g5, g6, g7, g8⟩ | ⟨x_q, x_y, _, rfl, g2, g3, g4, g5, g6, g7, g8, g9⟩
  · rfl
  · exact absurd (by assumption) hm
  · exact absurd (by assumption) hm
  · exact absurd (by assumption) hm
  · exact absurd (by assumption) hm
  · exact absurd (by assumption) hm
theorem full_makeBox {a0 : Int32} {b0 : Int32} {pl : Nat → Option Nat} {ac : Int64} {ft : Int32} {md : Int32} {Z : cZ} {P : cQ} {rz : Int64} {u : (Nat → Option Nat) × Int32 × Int32 × cQ} (h : q_X11_makeBox a0 b0 pl ac ft md Z P rz u) (hm : ¬ md < 6000) : u = (pl, 6, md, P) := by
  rcases h with ⟨_, rfl, g2⟩ | ⟨_, rfl, g2, g3⟩ | ⟨x_q, _, rfl, g2, g3, g4, g5⟩ | ⟨x_q, _, rfl, g2, g3, g4, g5⟩ | ⟨x_q, _, rfl, g2, g3, g4, g5⟩ | ⟨x_q, _, rfl, g2, g3, g4, g5, g6, g7⟩
  · rfl
  · exact absurd (by assumption) hm
  · exact absurd (by assumption) hm
  · exact absurd (by assumption) hm
  · exact absurd (by assumption) hm
  · exact absurd (by assumption) hm
theorem full_makeLetter {a0 : Int32} {b0 : Int32} {pl : Nat → Option Nat} {ac : Int64} {ft : Int32} {md : Int32} {Z : cZ} {P : cQ} {rz : Int64} {u : (Nat → Option Nat) × Int32 × Int32 × cQ} (h : q_X11_makeLetter a0 b0 pl ac ft md Z P rz u) (hm : ¬ md < 6000) : u = (pl, 6, md, P) := by
  rcases h with ⟨_, rfl, g2⟩ | ⟨_, rfl, g2, g3⟩ | ⟨x_q, x_z, _, rfl, g2, g3, g4, g5⟩
  · rfl
  · exact absurd (by assumption) hm
  · exact absurd (by assumption) hm
set_option maxHeartbeats 4000000 in
set_option maxRecDepth 100000 in
theorem c_X12_done (l : Launch) (dC : Nat → ClassId) (dI : Nat → Nat → Nat) (g : Nat → Nat) (ty : Nat → ClassId) (sz tot : Nat) (Y : rY) (pa : Nat → Int32) (kp : Nat → Int32) (ks : Int32) (I : rI) (tl : Nat → Int32) (ac : Int64) (wr : Int32) (tw : Int32) (ρ : Nat → Nat) (pl : Nat → Option Nat) (P : cQ) (md : Int32) (Z : cZ) (rz9 : Int64) (u9 : (Nat → Option Nat) × Int32 × Int32 × cQ) (w0 : Int32) (a0 : Int32) (b0 : Int32) (c0 : Int32) (pre0 : rR Y.2.2.2.2.2.2.2.2.2.1 Y pa ρ pl P) (pre1 : cWF pl P) (pre2 : ks = 0) (pre3 : rCnt Y md) (pre4 : tl 5 = md) (pre5 : 0 ≤ md ∧ md ≤ 6000) (pre6 : q_X11_answerOf w0 a0 b0 c0 pl ac (-1) md Z P rz9 u9) (pre7 : rNr) : Met l yX12_done (Cond.code yX12_done cX12_done 5 (some .long) :: gT) ({ frames := 4, cells := 96000 - Y.2.2.2.2.2.2.2.1, slots := 10 * (96000 - Y.2.2.2.2.2.2.2.1) + 2 * (1542237 - Y.2.2.2.2.2.2.2.2.1), locals := 109 }) (cPg (dC, dI) (rTy ty) (rW g ty Y pa kp ks I tl ac wr tw) sz tot [.ref (g 8), .int w0, .int a0, .int b0, .int c0]) (va_Ql (fun (rz : Int64) (u : rY × (Nat → Int32) × (Nat → Int32) × (Nat → Int32) × Int32 × Int32) => ∃ (r' : Int64) (Y' : rY) (pa' kp' tl' : Nat → Int32) (wr' tw' : Int32), r' = rz ∧ (Y', pa', kp', tl', wr', tw') = u ∧ rAns u9.2.1 rz9 u9.1 u9.2.2.2 u9.2.2.1 tl Y r' Y' pa' tl' wr' tw') (cBg (dC, dI) (fun u : rY × (Nat → Int32) × (Nat → Int32) × (Nat → Int32) × Int32 × Int32 => rW g ty u.1 u.2.1 u.2.2.1 ks I u.2.2.2.1 ac u.2.2.2.2.1 u.2.2.2.2.2) (va_A (rW g ty Y pa kp ks I tl ac wr tw) sz) sz tot (fun u : rY × (Nat → Int32) × (Nat → Int32) × (Nat → Int32) × Int32 × Int32 => u.1.2.2.2.2.2.2.2.1 - Y.2.2.2.2.2.2.2.1) (fun u : rY × (Nat → Int32) × (Nat → Int32) × (Nat → Int32) × Int32 × Int32 => 10 * (u.1.2.2.2.2.2.2.2.1 - Y.2.2.2.2.2.2.2.1) + 2 * (u.1.2.2.2.2.2.2.2.2.1 - Y.2.2.2.2.2.2.2.2.1))) (va_A (rW g ty Y pa kp ks I tl ac wr tw) sz)) (96000 - Y.2.2.2.2.2.2.2.1) (10 * (96000 - Y.2.2.2.2.2.2.2.1) + 2 * (1542237 - Y.2.2.2.2.2.2.2.2.1)) (va_A (rW g ty Y pa kp ks I tl ac wr tw) sz) := by
  refine cg_of (Qa := fun A => va_Ql (fun (rz : Int64) (u : rY × (Nat → Int32) × (Nat → Int32) × (Nat → Int32) × Int32 × Int32) => ∃ (r' : Int64) (Y' : rY) (pa' kp' tl' : Nat → Int32) (wr' tw' : Int32), r' = rz ∧ (Y', pa', kp', tl', wr', tw') = u ∧ rAns u9.2.1 rz9 u9.1 u9.2.2.2 u9.2.2.1 tl Y r' Y' pa' tl' wr' tw') (cBg (dC, dI) (fun u : rY × (Nat → Int32) × (Nat → Int32) × (Nat → Int32) × Int32 × Int32 => rW g ty u.1 u.2.1 u.2.2.1 ks I u.2.2.2.1 ac u.2.2.2.2.1 u.2.2.2.2.2) A sz tot (fun u : rY × (Nat → Int32) × (Nat → Int32) × (Nat → Int32) × Int32 × Int32 => u.1.2.2.2.2.2.2.2.1 - Y.2.2.2.2.2.2.2.1) (fun u : rY × (Nat → Int32) × (Nat → Int32) × (Nat → Int32) × Int32 × Int32 => 10 * (u.1.2.2.2.2.2.2.2.1 - Y.2.2.2.2.2.2.2.1) + 2 * (u.1.2.2.2.2.2.2.2.2.1 - Y.2.2.2.2.2.2.2.2.1))) A) (by decide) (Nat.le_of_ble_eq_true rfl) ?_
  intro p e s m below meth c A hx hb hr hml hown hg hlk hmn hP hK hD hT hS hA hsz htot ls hl
  have hown : s.vm.findClass RX12 = some m.cls := hown
  have rel := pre0
  have wf := pre1
  have hcnt := pre3
  have htl := pre4
  rcases an_group pre6 with ⟨u8, rfl, rfl, hq8⟩ | ⟨u8, rfl, rfl, hq8⟩ | ⟨u8, rfl, rfl, hq8⟩ | ⟨u8, rfl, rfl, hq8⟩ | ⟨u8, rfl, rfl, hq8⟩ | ⟨u8, rfl, rfl, hq8⟩ | ⟨u8, rfl, rfl, hq8⟩ | ⟨u8, rfl, rfl, hq8⟩ | ⟨u8, rfl, rfl, hq8⟩ | ⟨u8, rfl, rfl, hq8⟩ | ⟨u8, rfl, rfl, hq8⟩ | ⟨u8, rfl, rfl, hq8⟩ | ⟨u8, rfl, rfl, hq8⟩ | ⟨u8, rfl, rfl, hq8⟩ | ⟨u8, rfl, rfl, hq8⟩ | ⟨u8, rfl, rfl, hq8⟩ | ⟨u8, rfl, rfl, hq8⟩ | ⟨u8, rfl, rfl, hq8⟩ | ⟨u8, rfl, rfl, hq8⟩ | ⟨u8, rfl, rfl, hq8⟩ | ⟨u8, rfl, rfl, hq8⟩ | ⟨u8, rfl, rfl, hq8⟩ | ⟨u8, rfl, rfl, hq8⟩ | ⟨u8, rfl, rfl, hq8⟩ | ⟨u8, rfl, rfl, hq8⟩ | ⟨u8, rfl, rfl, hq8⟩ | ⟨u8, rfl, rfl, hq8⟩ | ⟨u8, rfl, rfl, hq8⟩ | ⟨u8, rfl, rfl, hq8⟩ | ⟨u8, rfl, rfl, hq8⟩ | ⟨u8, rfl, rfl, hq8⟩ | ⟨u8, rfl, rfl, hq8⟩ | ⟨rfl, rfl, nw0, nw1, nw2, nw3, nw4, nw5, nw6, nw7, nw8, nw9, nw10, nw11, nw12, nw13, nw14, nw15, nw16, nw17, nw18, nw19, nw20, nw21, nw22, nw23, nw24, nw25, nw26, nw27, nw28, nw29, nw30, nw31⟩
  · show _
    have hl : lv_has ls 5 [(0, .ref (g 8)), (1, .int 0), (2, .int a0), (3, .int b0), (4, .int c0)] := hl
    refine lv_aload_n hx hb dX12_done_0 rfl (lv_at hl 0 rfl) ?_
    refine lv_iconst (v := 0) hx hb dX12_done_1 (by decide) ?_
    refine va_put (D := (dC, dI)) (ci := 14) (v := .int 0) (ty := .boolean) (C := RX12) (T := TX12) (N := 21) hx hb hg inG12 tyX12 tyX12_ok nmX12 hown hK hP hD hS 0 rfl rfl 20 (by decide) (hg _ wF_X12_101) (fun _ h9 => h9) rfl (by decide +kernel) rfl rfl (Nat.le_of_ble_eq_true rfl) dX12_done_2 (fun H locs hP hD hS => ?_)
    have hP : va_P (dC, dI) vwCl (rW g ty Y pa kp ks I tl ac wr 0) H := hP
    have hD : va_D A (rW g ty Y pa kp ks I tl ac wr 0) := hD
    refine lv_iload_n hx hb dX12_done_5 rfl (lv_at hl 1 rfl) ?_
    refine lv_if_lt (tgt := 15) hx hb dX12_done_6 (by decide) (fun c9 => absurd c9 (by decide)) (fun _ => ?_)
    refine lv_iload_n hx hb dX12_done_9 rfl (lv_at hl 1 rfl) ?_
    refine lv_bipush (v := 31) hx hb dX12_done_10 (by decide) ?_
    refine lv_icmp_le (tgt := 19) hx hb dX12_done_12 (by decide) (fun _ => ?_) (fun c9 => absurd (by decide) c9) 
    refine lv_iload_n hx hb dX12_done_19 rfl (lv_at hl 1 rfl) ?_
    refine lv_if_eq (tgt := 46) hx hb dX12_done_20 (by decide) (fun _ => ?_) (fun c9 => absurd (by decide) c9) 
    refine lv_aload_n hx hb dX12_done_46 rfl (lv_at hl 0 rfl) ?_
    refine va_get (D := (dC, dI)) (ci := 14) (v := .ref (g 14)) (C := RX12) (T := TX12) (N := 21) hx hb hg inG12 hown hK hP 0 rfl rfl 17 (by decide) (hg _ wF_X12_49) (fun _ h9 => h9) rfl dX12_done_47 ?_
    refine lv_iconst (v := 5) hx hb dX12_done_50 (by decide) ?_
    refine va_iald hx hb hK hP 12 0 rfl rfl (by exact i32_in (by decide) (by decide)) dX12_done_51 ?_
    refine lv_sipush (v := 6000) hx hb dX12_done_52 (by decide) ?_
    refine lv_icmp_lt (tgt := 70) hx hb dX12_done_55 (by decide) (fun c_1 => ?_) (fun c_1 => ?_)
    · show _
      refine lv_iload_n hx hb dX12_done_70 rfl (lv_at hl 1 rfl) ?_
      refine lv_bipush (v := 8) hx hb dX12_done_71 (by decide) ?_
      refine lv_icmp_gt (tgt := 86) hx hb dX12_done_73 (by decide) (fun c9 => absurd c9 (by decide)) (fun _ => ?_)
      refine lv_aload_n hx hb dX12_done_76 rfl (lv_at hl 0 rfl) ?_
      refine lv_iload_n hx hb dX12_done_77 rfl (lv_at hl 1 rfl) ?_
      refine lv_iload_n hx hb dX12_done_78 rfl (lv_at hl 2 rfl) ?_
      refine lv_iload_n hx hb dX12_done_79 rfl (lv_at hl 3 rfl) ?_
      refine lv_iload hx hb dX12_done_80 (lv_at hl 4 rfl) ?_
      refine gV_l (C := RX12) (n := 4) (rest := []) hx hb hml hown hg hT (c_X12_rows_0 l dC dI g ty H.size (hsum H) Y pa kp ks I tl ac wr 0 ρ pl P md Z rz9 u8 a0 b0 c0 (by exact rel) (by exact wf) (by exact pre2) (by exact hcnt) (by exact htl) (by exact pre5) (by rfl) (by exact hq8) (by rw [← htl]; assumption)) (cv_of hg wM_X12_111 wN_X12_rows wL_X12_X12_rows wK_X12_rows wI_X12 (by decide +kernel) ⟨Nat.le_of_ble_eq_true rfl, Nat.le_of_ble_eq_true rfl⟩) hK hP hD hS hA (va_recv hK hP (ci := 14) (q0 := 0) rfl rfl) rfl hl.1 rfl (Nat.le_of_ble_eq_true rfl) dX12_done_82 ⟨by show 0 + (96000 - Y.2.2.2.2.2.2.2.1) ≤ 96000 - Y.2.2.2.2.2.2.2.1; omega, by show 0 + (10 * (96000 - Y.2.2.2.2.2.2.2.1) + 2 * (1542237 - Y.2.2.2.2.2.2.2.2.1)) ≤ 10 * (96000 - Y.2.2.2.2.2.2.2.1) + 2 * (1542237 - Y.2.2.2.2.2.2.2.2.1); omega⟩ (fun r_3 u_4 H locs q_2 hP hD hS => ?_)
      obtain ⟨r'_5, Y'_6, pa'_7, kp'_8, tl'_9, wr'_10, tw'_11, rfl, rfl, f_12⟩ := q_2
      have hP : va_P (dC, dI) vwCl (rW g ty Y'_6 pa'_7 kp'_8 ks I tl'_9 ac wr'_10 tw'_11) H := hP
      have hD : va_D A (rW g ty Y'_6 pa'_7 kp'_8 ks I tl'_9 ac wr'_10 tw'_11) := hD
      have hra := ra_L f_12
      refine W.bound (fun gb1 gb2 => ?_)
      have gb1 : H.size ≤ s.heap.size + (0 + (Y'_6.2.2.2.2.2.2.2.1 - Y.2.2.2.2.2.2.2.1)) := gb1
      have gb2 : hsum H ≤ hsum s.heap + (0 + (10 * (Y'_6.2.2.2.2.2.2.2.1 - Y.2.2.2.2.2.2.2.1) + 2 * (Y'_6.2.2.2.2.2.2.2.2.1 - Y.2.2.2.2.2.2.2.2.1))) := gb2
      refine W.widen (k := 96000 - Y.2.2.2.2.2.2.2.1) (n := 10 * (96000 - Y.2.2.2.2.2.2.2.1) + 2 * (1542237 - Y.2.2.2.2.2.2.2.2.1)) (by show 0 + (Y'_6.2.2.2.2.2.2.2.1 - Y.2.2.2.2.2.2.2.1) ≤ 96000 - Y.2.2.2.2.2.2.2.1; omega) (by show 0 + (10 * (Y'_6.2.2.2.2.2.2.2.1 - Y.2.2.2.2.2.2.2.1) + 2 * (Y'_6.2.2.2.2.2.2.2.2.1 - Y.2.2.2.2.2.2.2.2.1)) ≤ 10 * (96000 - Y.2.2.2.2.2.2.2.1) + 2 * (1542237 - Y.2.2.2.2.2.2.2.2.1); omega) ?_
      refine gr_l (wo := fun u : rY × (Nat → Int32) × (Nat → Int32) × (Nat → Int32) × Int32 × Int32 => rW g ty u.1 u.2.1 u.2.2.1 ks I u.2.2.2.1 ac u.2.2.2.2.1 u.2.2.2.2.2) ((Y'_6, pa'_7, kp'_8, tl'_9, wr'_10, tw'_11)) hx hb hr hlk hS hP hD (by show H.size ≤ sz + (Y'_6.2.2.2.2.2.2.2.1 - Y.2.2.2.2.2.2.2.1); rw [← hsz]; omega) (by show hsum H ≤ tot + (10 * (Y'_6.2.2.2.2.2.2.2.1 - Y.2.2.2.2.2.2.2.1) + 2 * (Y'_6.2.2.2.2.2.2.2.2.1 - Y.2.2.2.2.2.2.2.2.1)); rw [← htot]; omega) ?_ dX12_done_85
      exact ⟨r'_5, Y'_6, pa'_7, kp'_8, tl'_9, wr'_10, tw'_11, rfl, rfl, (by assumption)⟩
    · show _
      have hm6 : ¬ md < 6000 := by rw [← htl]; assumption
      have hu8 := full_makeRow hq8 hm6
      subst hu8
      refine lv_aload_n hx hb dX12_done_58 rfl (lv_at hl 0 rfl) ?_
      refine lv_bipush (v := 6) hx hb dX12_done_59 (by decide) ?_
      refine cV_i (C := RX12) (n := 1) (rest := []) hx hb hml hown hg hT (c_X12_fails l dC dI g ty H.size Y pa kp ks I tl ac wr 0 6 ) (cv_of hg wM_X12_79 wN_X12_fails wL_X12_X12_fails wK_X12_fails wI_X12 (by decide +kernel) ⟨Nat.le_of_ble_eq_true rfl, Nat.le_of_ble_eq_true rfl⟩) hK hP hD hS hA (va_recv hK hP (ci := 14) (q0 := 0) rfl rfl) rfl hl.1 rfl (Nat.le_of_ble_eq_true rfl) dX12_done_61 ⟨by show 0 + 0 ≤ 96000 - Y.2.2.2.2.2.2.2.1; omega, by show 0 + 0 ≤ 10 * (96000 - Y.2.2.2.2.2.2.2.1) + 2 * (1542237 - Y.2.2.2.2.2.2.2.2.1); omega⟩ (fun r_14 u_15 H locs q_13 hP hD hS => ?_)
      obtain ⟨rfl, rfl⟩ := q_13
      have hP : va_P (dC, dI) vwCl (rW g ty Y pa kp ks I tl ac 6 0) H := hP
      have hD : va_D A (rW g ty Y pa kp ks I tl ac 6 0) := hD
      refine lv_pop hx hb dX12_done_64 rfl ?_
      refine lv_aload_n hx hb dX12_done_65 rfl (lv_at hl 0 rfl) ?_
      refine cV_l (C := RX12) (n := 0) (rest := []) hx hb hml hown hg hT (c_X12_no l dC dI g ty H.size Y pa kp ks I tl ac 6 0  ) (cv_of hg wM_X12_107 wN_X12_no wL_X12_X12_no wK_X12_no wI_X12 (by decide +kernel) ⟨Nat.le_of_ble_eq_true rfl, Nat.le_of_ble_eq_true rfl⟩) hK hP hD hS hA (va_recv hK hP (ci := 14) (q0 := 0) rfl rfl) rfl hl.1 rfl (Nat.le_of_ble_eq_true rfl) dX12_done_66 ⟨by show 0 + 0 + 0 ≤ 96000 - Y.2.2.2.2.2.2.2.1; omega, by show 0 + 0 + 0 ≤ 10 * (96000 - Y.2.2.2.2.2.2.2.1) + 2 * (1542237 - Y.2.2.2.2.2.2.2.2.1); omega⟩ (fun r_17 u_18 H locs q_16 hP hD hS => ?_)
      obtain ⟨rfl, rfl⟩ := q_16
      have hP : va_P (dC, dI) vwCl (rW g ty Y pa kp ks I tl ac 6 1) H := hP
      have hD : va_D A (rW g ty Y pa kp ks I tl ac 6 1) := hD
      refine W.bound (fun gb1 gb2 => ?_)
      have gb1 : H.size ≤ s.heap.size + (0 + 0 + 0) := gb1
      have gb2 : hsum H ≤ hsum s.heap + (0 + 0 + 0) := gb2
      refine W.widen (k := 96000 - Y.2.2.2.2.2.2.2.1) (n := 10 * (96000 - Y.2.2.2.2.2.2.2.1) + 2 * (1542237 - Y.2.2.2.2.2.2.2.2.1)) (by show 0 + 0 + 0 ≤ 96000 - Y.2.2.2.2.2.2.2.1; omega) (by show 0 + 0 + 0 ≤ 10 * (96000 - Y.2.2.2.2.2.2.2.1) + 2 * (1542237 - Y.2.2.2.2.2.2.2.2.1); omega) ?_
      refine gr_l (wo := fun u : rY × (Nat → Int32) × (Nat → Int32) × (Nat → Int32) × Int32 × Int32 => rW g ty u.1 u.2.1 u.2.2.1 ks I u.2.2.2.1 ac u.2.2.2.2.1 u.2.2.2.2.2) ((Y, pa, kp, tl, 6, 1)) hx hb hr hlk hS hP hD (by show H.size ≤ sz + (Y.2.2.2.2.2.2.2.1 - Y.2.2.2.2.2.2.2.1); rw [← hsz]; omega) (by show hsum H ≤ tot + (10 * (Y.2.2.2.2.2.2.2.1 - Y.2.2.2.2.2.2.2.1) + 2 * (Y.2.2.2.2.2.2.2.2.1 - Y.2.2.2.2.2.2.2.2.1)); rw [← htot]; omega) ?_ dX12_done_69
      exact ⟨0, Y, pa, kp, tl, 6, 1, rfl, rfl, (by exact ra_f (f := 6) rel hcnt htl (by decide))⟩
  · show _
    have hl : lv_has ls 5 [(0, .ref (g 8)), (1, .int 1), (2, .int a0), (3, .int b0), (4, .int c0)] := hl
    refine lv_aload_n hx hb dX12_done_0 rfl (lv_at hl 0 rfl) ?_
    refine lv_iconst (v := 0) hx hb dX12_done_1 (by decide) ?_
    refine va_put (D := (dC, dI)) (ci := 14) (v := .int 0) (ty := .boolean) (C := RX12) (T := TX12) (N := 21) hx hb hg inG12 tyX12 tyX12_ok nmX12 hown hK hP hD hS 0 rfl rfl 20 (by decide) (hg _ wF_X12_101) (fun _ h9 => h9) rfl (by decide +kernel) rfl rfl (Nat.le_of_ble_eq_true rfl) dX12_done_2 (fun H locs hP hD hS => ?_)
    have hP : va_P (dC, dI) vwCl (rW g ty Y pa kp ks I tl ac wr 0) H := hP
    have hD : va_D A (rW g ty Y pa kp ks I tl ac wr 0) := hD
    refine lv_iload_n hx hb dX12_done_5 rfl (lv_at hl 1 rfl) ?_
    refine lv_if_lt (tgt := 15) hx hb dX12_done_6 (by decide) (fun c9 => absurd c9 (by decide)) (fun _ => ?_)
    refine lv_iload_n hx hb dX12_done_9 rfl (lv_at hl 1 rfl) ?_
    refine lv_bipush (v := 31) hx hb dX12_done_10 (by decide) ?_
    refine lv_icmp_le (tgt := 19) hx hb dX12_done_12 (by decide) (fun _ => ?_) (fun c9 => absurd (by decide) c9) 
    refine lv_iload_n hx hb dX12_done_19 rfl (lv_at hl 1 rfl) ?_
    refine lv_if_eq (tgt := 46) hx hb dX12_done_20 (by decide) (fun c9 => absurd c9 (by decide)) (fun _ => ?_)
    refine lv_iload_n hx hb dX12_done_23 rfl (lv_at hl 1 rfl) ?_
    refine lv_iconst (v := 4) hx hb dX12_done_24 (by decide) ?_
    refine lv_icmp_eq (tgt := 46) hx hb dX12_done_25 (by decide) (fun c9 => absurd c9 (by decide)) (fun _ => ?_)
    refine lv_iload_n hx hb dX12_done_28 rfl (lv_at hl 1 rfl) ?_
    refine lv_bipush (v := 9) hx hb dX12_done_29 (by decide) ?_
    refine lv_icmp_eq (tgt := 46) hx hb dX12_done_31 (by decide) (fun c9 => absurd c9 (by decide)) (fun _ => ?_)
    refine lv_iload_n hx hb dX12_done_34 rfl (lv_at hl 1 rfl) ?_
    refine lv_bipush (v := 13) hx hb dX12_done_35 (by decide) ?_
    refine lv_icmp_eq (tgt := 46) hx hb dX12_done_37 (by decide) (fun c9 => absurd c9 (by decide)) (fun _ => ?_)
    refine lv_iload_n hx hb dX12_done_40 rfl (lv_at hl 1 rfl) ?_
    refine lv_bipush (v := 14) hx hb dX12_done_41 (by decide) ?_
    refine lv_icmp_ne (tgt := 70) hx hb dX12_done_43 (by decide) (fun _ => ?_) (fun c9 => absurd c9 (by decide)) 
    refine lv_iload_n hx hb dX12_done_70 rfl (lv_at hl 1 rfl) ?_
    refine lv_bipush (v := 8) hx hb dX12_done_71 (by decide) ?_
    refine lv_icmp_gt (tgt := 86) hx hb dX12_done_73 (by decide) (fun c9 => absurd c9 (by decide)) (fun _ => ?_)
    refine lv_aload_n hx hb dX12_done_76 rfl (lv_at hl 0 rfl) ?_
    refine lv_iload_n hx hb dX12_done_77 rfl (lv_at hl 1 rfl) ?_
    refine lv_iload_n hx hb dX12_done_78 rfl (lv_at hl 2 rfl) ?_
    refine lv_iload_n hx hb dX12_done_79 rfl (lv_at hl 3 rfl) ?_
    refine lv_iload hx hb dX12_done_80 (lv_at hl 4 rfl) ?_
    refine cV_l (C := RX12) (n := 4) (rest := []) hx hb hml hown hg hT (c_X12_rows_1 l dC dI g ty H.size Y pa kp ks I tl ac wr 0 ρ pl P md Z rz9 u8 a0 b0 c0 (by exact rel) (by exact wf) (by exact pre2) (by exact hcnt) (by exact htl) (by exact pre5) (by rfl) (by exact hq8)) (cv_of hg wM_X12_111 wN_X12_rows wL_X12_X12_rows wK_X12_rows wI_X12 (by decide +kernel) ⟨Nat.le_of_ble_eq_true rfl, Nat.le_of_ble_eq_true rfl⟩) hK hP hD hS hA (va_recv hK hP (ci := 14) (q0 := 0) rfl rfl) rfl hl.1 rfl (Nat.le_of_ble_eq_true rfl) dX12_done_82 ⟨by show 0 + 0 ≤ 96000 - Y.2.2.2.2.2.2.2.1; omega, by show 0 + 0 ≤ 10 * (96000 - Y.2.2.2.2.2.2.2.1) + 2 * (1542237 - Y.2.2.2.2.2.2.2.2.1); omega⟩ (fun r_20 u_21 H locs q_19 hP hD hS => ?_)
    obtain ⟨r'_22, Y'_23, pa'_24, kp'_25, tl'_26, wr'_27, tw'_28, rfl, rfl, f_29⟩ := q_19
    have hP : va_P (dC, dI) vwCl (rW g ty Y'_23 pa'_24 kp'_25 ks I tl'_26 ac wr'_27 tw'_28) H := hP
    have hD : va_D A (rW g ty Y'_23 pa'_24 kp'_25 ks I tl'_26 ac wr'_27 tw'_28) := hD
    refine W.bound (fun gb1 gb2 => ?_)
    have gb1 : H.size ≤ s.heap.size + (0 + 0) := gb1
    have gb2 : hsum H ≤ hsum s.heap + (0 + 0) := gb2
    refine W.widen (k := 96000 - Y.2.2.2.2.2.2.2.1) (n := 10 * (96000 - Y.2.2.2.2.2.2.2.1) + 2 * (1542237 - Y.2.2.2.2.2.2.2.2.1)) (by show 0 + 0 ≤ 96000 - Y.2.2.2.2.2.2.2.1; omega) (by show 0 + 0 ≤ 10 * (96000 - Y.2.2.2.2.2.2.2.1) + 2 * (1542237 - Y.2.2.2.2.2.2.2.2.1); omega) ?_
    refine gr_l (wo := fun u : rY × (Nat → Int32) × (Nat → Int32) × (Nat → Int32) × Int32 × Int32 => rW g ty u.1 u.2.1 u.2.2.1 ks I u.2.2.2.1 ac u.2.2.2.2.1 u.2.2.2.2.2) ((Y'_23, pa'_24, kp'_25, tl'_26, wr'_27, tw'_28)) hx hb hr hlk hS hP hD (by show H.size ≤ sz + (Y'_23.2.2.2.2.2.2.2.1 - Y.2.2.2.2.2.2.2.1); rw [← hsz]; omega) (by show hsum H ≤ tot + (10 * (Y'_23.2.2.2.2.2.2.2.1 - Y.2.2.2.2.2.2.2.1) + 2 * (Y'_23.2.2.2.2.2.2.2.2.1 - Y.2.2.2.2.2.2.2.2.1)); rw [← htot]; omega) ?_ dX12_done_85
    exact ⟨r'_22, Y'_23, pa'_24, kp'_25, tl'_26, wr'_27, tw'_28, rfl, rfl, (by assumption)⟩
  · show _
    have hl : lv_has ls 5 [(0, .ref (g 8)), (1, .int 2), (2, .int a0), (3, .int b0), (4, .int c0)] := hl
    refine lv_aload_n hx hb dX12_done_0 rfl (lv_at hl 0 rfl) ?_
    refine lv_iconst (v := 0) hx hb dX12_done_1 (by decide) ?_
    refine va_put (D := (dC, dI)) (ci := 14) (v := .int 0) (ty := .boolean) (C := RX12) (T := TX12) (N := 21) hx hb hg inG12 tyX12 tyX12_ok nmX12 hown hK hP hD hS 0 rfl rfl 20 (by decide) (hg _ wF_X12_101) (fun _ h9 => h9) rfl (by decide +kernel) rfl rfl (Nat.le_of_ble_eq_true rfl) dX12_done_2 (fun H locs hP hD hS => ?_)
    have hP : va_P (dC, dI) vwCl (rW g ty Y pa kp ks I tl ac wr 0) H := hP
    have hD : va_D A (rW g ty Y pa kp ks I tl ac wr 0) := hD
    refine lv_iload_n hx hb dX12_done_5 rfl (lv_at hl 1 rfl) ?_
    refine lv_if_lt (tgt := 15) hx hb dX12_done_6 (by decide) (fun c9 => absurd c9 (by decide)) (fun _ => ?_)
    refine lv_iload_n hx hb dX12_done_9 rfl (lv_at hl 1 rfl) ?_
    refine lv_bipush (v := 31) hx hb dX12_done_10 (by decide) ?_
    refine lv_icmp_le (tgt := 19) hx hb dX12_done_12 (by decide) (fun _ => ?_) (fun c9 => absurd (by decide) c9) 
    refine lv_iload_n hx hb dX12_done_19 rfl (lv_at hl 1 rfl) ?_
    refine lv_if_eq (tgt := 46) hx hb dX12_done_20 (by decide) (fun c9 => absurd c9 (by decide)) (fun _ => ?_)
    refine lv_iload_n hx hb dX12_done_23 rfl (lv_at hl 1 rfl) ?_
    refine lv_iconst (v := 4) hx hb dX12_done_24 (by decide) ?_
    refine lv_icmp_eq (tgt := 46) hx hb dX12_done_25 (by decide) (fun c9 => absurd c9 (by decide)) (fun _ => ?_)
    refine lv_iload_n hx hb dX12_done_28 rfl (lv_at hl 1 rfl) ?_
    refine lv_bipush (v := 9) hx hb dX12_done_29 (by decide) ?_
    refine lv_icmp_eq (tgt := 46) hx hb dX12_done_31 (by decide) (fun c9 => absurd c9 (by decide)) (fun _ => ?_)
    refine lv_iload_n hx hb dX12_done_34 rfl (lv_at hl 1 rfl) ?_
    refine lv_bipush (v := 13) hx hb dX12_done_35 (by decide) ?_
    refine lv_icmp_eq (tgt := 46) hx hb dX12_done_37 (by decide) (fun c9 => absurd c9 (by decide)) (fun _ => ?_)
    refine lv_iload_n hx hb dX12_done_40 rfl (lv_at hl 1 rfl) ?_
    refine lv_bipush (v := 14) hx hb dX12_done_41 (by decide) ?_
    refine lv_icmp_ne (tgt := 70) hx hb dX12_done_43 (by decide) (fun _ => ?_) (fun c9 => absurd c9 (by decide)) 
    refine lv_iload_n hx hb dX12_done_70 rfl (lv_at hl 1 rfl) ?_
    refine lv_bipush (v := 8) hx hb dX12_done_71 (by decide) ?_
    refine lv_icmp_gt (tgt := 86) hx hb dX12_done_73 (by decide) (fun c9 => absurd c9 (by decide)) (fun _ => ?_)
    refine lv_aload_n hx hb dX12_done_76 rfl (lv_at hl 0 rfl) ?_
    refine lv_iload_n hx hb dX12_done_77 rfl (lv_at hl 1 rfl) ?_
    refine lv_iload_n hx hb dX12_done_78 rfl (lv_at hl 2 rfl) ?_
    refine lv_iload_n hx hb dX12_done_79 rfl (lv_at hl 3 rfl) ?_
    refine lv_iload hx hb dX12_done_80 (lv_at hl 4 rfl) ?_
    refine cV_l (C := RX12) (n := 4) (rest := []) hx hb hml hown hg hT (c_X12_rows_2 l dC dI g ty H.size Y pa kp ks I tl ac wr 0 ρ pl P md Z rz9 u8 a0 b0 c0 (by exact rel) (by exact wf) (by exact pre2) (by exact hcnt) (by exact htl) (by exact pre5) (by rfl) (by exact hq8) (by exact pre7)) (cv_of hg wM_X12_111 wN_X12_rows wL_X12_X12_rows wK_X12_rows wI_X12 (by decide +kernel) ⟨Nat.le_of_ble_eq_true rfl, Nat.le_of_ble_eq_true rfl⟩) hK hP hD hS hA (va_recv hK hP (ci := 14) (q0 := 0) rfl rfl) rfl hl.1 rfl (Nat.le_of_ble_eq_true rfl) dX12_done_82 ⟨by show 0 + 0 ≤ 96000 - Y.2.2.2.2.2.2.2.1; omega, by show 0 + 0 ≤ 10 * (96000 - Y.2.2.2.2.2.2.2.1) + 2 * (1542237 - Y.2.2.2.2.2.2.2.2.1); omega⟩ (fun r_31 u_32 H locs q_30 hP hD hS => ?_)
    obtain ⟨r'_33, Y'_34, pa'_35, kp'_36, tl'_37, wr'_38, tw'_39, rfl, rfl, f_40⟩ := q_30
    have hP : va_P (dC, dI) vwCl (rW g ty Y'_34 pa'_35 kp'_36 ks I tl'_37 ac wr'_38 tw'_39) H := hP
    have hD : va_D A (rW g ty Y'_34 pa'_35 kp'_36 ks I tl'_37 ac wr'_38 tw'_39) := hD
    refine W.bound (fun gb1 gb2 => ?_)
    have gb1 : H.size ≤ s.heap.size + (0 + 0) := gb1
    have gb2 : hsum H ≤ hsum s.heap + (0 + 0) := gb2
    refine W.widen (k := 96000 - Y.2.2.2.2.2.2.2.1) (n := 10 * (96000 - Y.2.2.2.2.2.2.2.1) + 2 * (1542237 - Y.2.2.2.2.2.2.2.2.1)) (by show 0 + 0 ≤ 96000 - Y.2.2.2.2.2.2.2.1; omega) (by show 0 + 0 ≤ 10 * (96000 - Y.2.2.2.2.2.2.2.1) + 2 * (1542237 - Y.2.2.2.2.2.2.2.2.1); omega) ?_
    refine gr_l (wo := fun u : rY × (Nat → Int32) × (Nat → Int32) × (Nat → Int32) × Int32 × Int32 => rW g ty u.1 u.2.1 u.2.2.1 ks I u.2.2.2.1 ac u.2.2.2.2.1 u.2.2.2.2.2) ((Y'_34, pa'_35, kp'_36, tl'_37, wr'_38, tw'_39)) hx hb hr hlk hS hP hD (by show H.size ≤ sz + (Y'_34.2.2.2.2.2.2.2.1 - Y.2.2.2.2.2.2.2.1); rw [← hsz]; omega) (by show hsum H ≤ tot + (10 * (Y'_34.2.2.2.2.2.2.2.1 - Y.2.2.2.2.2.2.2.1) + 2 * (Y'_34.2.2.2.2.2.2.2.2.1 - Y.2.2.2.2.2.2.2.2.1)); rw [← htot]; omega) ?_ dX12_done_85
    exact ⟨r'_33, Y'_34, pa'_35, kp'_36, tl'_37, wr'_38, tw'_39, rfl, rfl, (by assumption)⟩
  · show _
    have hl : lv_has ls 5 [(0, .ref (g 8)), (1, .int 3), (2, .int a0), (3, .int b0), (4, .int c0)] := hl
    refine lv_aload_n hx hb dX12_done_0 rfl (lv_at hl 0 rfl) ?_
    refine lv_iconst (v := 0) hx hb dX12_done_1 (by decide) ?_
    refine va_put (D := (dC, dI)) (ci := 14) (v := .int 0) (ty := .boolean) (C := RX12) (T := TX12) (N := 21) hx hb hg inG12 tyX12 tyX12_ok nmX12 hown hK hP hD hS 0 rfl rfl 20 (by decide) (hg _ wF_X12_101) (fun _ h9 => h9) rfl (by decide +kernel) rfl rfl (Nat.le_of_ble_eq_true rfl) dX12_done_2 (fun H locs hP hD hS => ?_)
    have hP : va_P (dC, dI) vwCl (rW g ty Y pa kp ks I tl ac wr 0) H := hP
    have hD : va_D A (rW g ty Y pa kp ks I tl ac wr 0) := hD
    refine lv_iload_n hx hb dX12_done_5 rfl (lv_at hl 1 rfl) ?_
    refine lv_if_lt (tgt := 15) hx hb dX12_done_6 (by decide) (fun c9 => absurd c9 (by decide)) (fun _ => ?_)
    refine lv_iload_n hx hb dX12_done_9 rfl (lv_at hl 1 rfl) ?_
    refine lv_bipush (v := 31) hx hb dX12_done_10 (by decide) ?_
    refine lv_icmp_le (tgt := 19) hx hb dX12_done_12 (by decide) (fun _ => ?_) (fun c9 => absurd (by decide) c9) 
    refine lv_iload_n hx hb dX12_done_19 rfl (lv_at hl 1 rfl) ?_
    refine lv_if_eq (tgt := 46) hx hb dX12_done_20 (by decide) (fun c9 => absurd c9 (by decide)) (fun _ => ?_)
    refine lv_iload_n hx hb dX12_done_23 rfl (lv_at hl 1 rfl) ?_
    refine lv_iconst (v := 4) hx hb dX12_done_24 (by decide) ?_
    refine lv_icmp_eq (tgt := 46) hx hb dX12_done_25 (by decide) (fun c9 => absurd c9 (by decide)) (fun _ => ?_)
    refine lv_iload_n hx hb dX12_done_28 rfl (lv_at hl 1 rfl) ?_
    refine lv_bipush (v := 9) hx hb dX12_done_29 (by decide) ?_
    refine lv_icmp_eq (tgt := 46) hx hb dX12_done_31 (by decide) (fun c9 => absurd c9 (by decide)) (fun _ => ?_)
    refine lv_iload_n hx hb dX12_done_34 rfl (lv_at hl 1 rfl) ?_
    refine lv_bipush (v := 13) hx hb dX12_done_35 (by decide) ?_
    refine lv_icmp_eq (tgt := 46) hx hb dX12_done_37 (by decide) (fun c9 => absurd c9 (by decide)) (fun _ => ?_)
    refine lv_iload_n hx hb dX12_done_40 rfl (lv_at hl 1 rfl) ?_
    refine lv_bipush (v := 14) hx hb dX12_done_41 (by decide) ?_
    refine lv_icmp_ne (tgt := 70) hx hb dX12_done_43 (by decide) (fun _ => ?_) (fun c9 => absurd c9 (by decide)) 
    refine lv_iload_n hx hb dX12_done_70 rfl (lv_at hl 1 rfl) ?_
    refine lv_bipush (v := 8) hx hb dX12_done_71 (by decide) ?_
    refine lv_icmp_gt (tgt := 86) hx hb dX12_done_73 (by decide) (fun c9 => absurd c9 (by decide)) (fun _ => ?_)
    refine lv_aload_n hx hb dX12_done_76 rfl (lv_at hl 0 rfl) ?_
    refine lv_iload_n hx hb dX12_done_77 rfl (lv_at hl 1 rfl) ?_
    refine lv_iload_n hx hb dX12_done_78 rfl (lv_at hl 2 rfl) ?_
    refine lv_iload_n hx hb dX12_done_79 rfl (lv_at hl 3 rfl) ?_
    refine lv_iload hx hb dX12_done_80 (lv_at hl 4 rfl) ?_
    refine cV_l (C := RX12) (n := 4) (rest := []) hx hb hml hown hg hT (c_X12_rows_3 l dC dI g ty H.size Y pa kp ks I tl ac wr 0 ρ pl P md Z rz9 u8 a0 b0 c0 (by exact rel) (by exact wf) (by exact pre2) (by exact hcnt) (by exact htl) (by exact pre5) (by rfl) (by exact hq8)) (cv_of hg wM_X12_111 wN_X12_rows wL_X12_X12_rows wK_X12_rows wI_X12 (by decide +kernel) ⟨Nat.le_of_ble_eq_true rfl, Nat.le_of_ble_eq_true rfl⟩) hK hP hD hS hA (va_recv hK hP (ci := 14) (q0 := 0) rfl rfl) rfl hl.1 rfl (Nat.le_of_ble_eq_true rfl) dX12_done_82 ⟨by show 0 + 0 ≤ 96000 - Y.2.2.2.2.2.2.2.1; omega, by show 0 + 0 ≤ 10 * (96000 - Y.2.2.2.2.2.2.2.1) + 2 * (1542237 - Y.2.2.2.2.2.2.2.2.1); omega⟩ (fun r_42 u_43 H locs q_41 hP hD hS => ?_)
    obtain ⟨r'_44, Y'_45, pa'_46, kp'_47, tl'_48, wr'_49, tw'_50, rfl, rfl, f_51⟩ := q_41
    have hP : va_P (dC, dI) vwCl (rW g ty Y'_45 pa'_46 kp'_47 ks I tl'_48 ac wr'_49 tw'_50) H := hP
    have hD : va_D A (rW g ty Y'_45 pa'_46 kp'_47 ks I tl'_48 ac wr'_49 tw'_50) := hD
    refine W.bound (fun gb1 gb2 => ?_)
    have gb1 : H.size ≤ s.heap.size + (0 + 0) := gb1
    have gb2 : hsum H ≤ hsum s.heap + (0 + 0) := gb2
    refine W.widen (k := 96000 - Y.2.2.2.2.2.2.2.1) (n := 10 * (96000 - Y.2.2.2.2.2.2.2.1) + 2 * (1542237 - Y.2.2.2.2.2.2.2.2.1)) (by show 0 + 0 ≤ 96000 - Y.2.2.2.2.2.2.2.1; omega) (by show 0 + 0 ≤ 10 * (96000 - Y.2.2.2.2.2.2.2.1) + 2 * (1542237 - Y.2.2.2.2.2.2.2.2.1); omega) ?_
    refine gr_l (wo := fun u : rY × (Nat → Int32) × (Nat → Int32) × (Nat → Int32) × Int32 × Int32 => rW g ty u.1 u.2.1 u.2.2.1 ks I u.2.2.2.1 ac u.2.2.2.2.1 u.2.2.2.2.2) ((Y'_45, pa'_46, kp'_47, tl'_48, wr'_49, tw'_50)) hx hb hr hlk hS hP hD (by show H.size ≤ sz + (Y'_45.2.2.2.2.2.2.2.1 - Y.2.2.2.2.2.2.2.1); rw [← hsz]; omega) (by show hsum H ≤ tot + (10 * (Y'_45.2.2.2.2.2.2.2.1 - Y.2.2.2.2.2.2.2.1) + 2 * (Y'_45.2.2.2.2.2.2.2.2.1 - Y.2.2.2.2.2.2.2.2.1)); rw [← htot]; omega) ?_ dX12_done_85
    exact ⟨r'_44, Y'_45, pa'_46, kp'_47, tl'_48, wr'_49, tw'_50, rfl, rfl, (by assumption)⟩
  · show _
    have hl : lv_has ls 5 [(0, .ref (g 8)), (1, .int 4), (2, .int a0), (3, .int b0), (4, .int c0)] := hl
    refine lv_aload_n hx hb dX12_done_0 rfl (lv_at hl 0 rfl) ?_
    refine lv_iconst (v := 0) hx hb dX12_done_1 (by decide) ?_
    refine va_put (D := (dC, dI)) (ci := 14) (v := .int 0) (ty := .boolean) (C := RX12) (T := TX12) (N := 21) hx hb hg inG12 tyX12 tyX12_ok nmX12 hown hK hP hD hS 0 rfl rfl 20 (by decide) (hg _ wF_X12_101) (fun _ h9 => h9) rfl (by decide +kernel) rfl rfl (Nat.le_of_ble_eq_true rfl) dX12_done_2 (fun H locs hP hD hS => ?_)
    have hP : va_P (dC, dI) vwCl (rW g ty Y pa kp ks I tl ac wr 0) H := hP
    have hD : va_D A (rW g ty Y pa kp ks I tl ac wr 0) := hD
    refine lv_iload_n hx hb dX12_done_5 rfl (lv_at hl 1 rfl) ?_
    refine lv_if_lt (tgt := 15) hx hb dX12_done_6 (by decide) (fun c9 => absurd c9 (by decide)) (fun _ => ?_)
    refine lv_iload_n hx hb dX12_done_9 rfl (lv_at hl 1 rfl) ?_
    refine lv_bipush (v := 31) hx hb dX12_done_10 (by decide) ?_
    refine lv_icmp_le (tgt := 19) hx hb dX12_done_12 (by decide) (fun _ => ?_) (fun c9 => absurd (by decide) c9) 
    refine lv_iload_n hx hb dX12_done_19 rfl (lv_at hl 1 rfl) ?_
    refine lv_if_eq (tgt := 46) hx hb dX12_done_20 (by decide) (fun c9 => absurd c9 (by decide)) (fun _ => ?_)
    refine lv_iload_n hx hb dX12_done_23 rfl (lv_at hl 1 rfl) ?_
    refine lv_iconst (v := 4) hx hb dX12_done_24 (by decide) ?_
    refine lv_icmp_eq (tgt := 46) hx hb dX12_done_25 (by decide) (fun _ => ?_) (fun c9 => absurd (by decide) c9) 
    refine lv_aload_n hx hb dX12_done_46 rfl (lv_at hl 0 rfl) ?_
    refine va_get (D := (dC, dI)) (ci := 14) (v := .ref (g 14)) (C := RX12) (T := TX12) (N := 21) hx hb hg inG12 hown hK hP 0 rfl rfl 17 (by decide) (hg _ wF_X12_49) (fun _ h9 => h9) rfl dX12_done_47 ?_
    refine lv_iconst (v := 5) hx hb dX12_done_50 (by decide) ?_
    refine va_iald hx hb hK hP 12 0 rfl rfl (by exact i32_in (by decide) (by decide)) dX12_done_51 ?_
    refine lv_sipush (v := 6000) hx hb dX12_done_52 (by decide) ?_
    refine lv_icmp_lt (tgt := 70) hx hb dX12_done_55 (by decide) (fun c_52 => ?_) (fun c_52 => ?_)
    · show _
      refine lv_iload_n hx hb dX12_done_70 rfl (lv_at hl 1 rfl) ?_
      refine lv_bipush (v := 8) hx hb dX12_done_71 (by decide) ?_
      refine lv_icmp_gt (tgt := 86) hx hb dX12_done_73 (by decide) (fun c9 => absurd c9 (by decide)) (fun _ => ?_)
      refine lv_aload_n hx hb dX12_done_76 rfl (lv_at hl 0 rfl) ?_
      refine lv_iload_n hx hb dX12_done_77 rfl (lv_at hl 1 rfl) ?_
      refine lv_iload_n hx hb dX12_done_78 rfl (lv_at hl 2 rfl) ?_
      refine lv_iload_n hx hb dX12_done_79 rfl (lv_at hl 3 rfl) ?_
      refine lv_iload hx hb dX12_done_80 (lv_at hl 4 rfl) ?_
      refine gV_l (C := RX12) (n := 4) (rest := []) hx hb hml hown hg hT (c_X12_rows_4 l dC dI g ty H.size (hsum H) Y pa kp ks I tl ac wr 0 ρ pl P md Z rz9 u8 a0 b0 c0 (by exact rel) (by exact wf) (by exact pre2) (by exact hcnt) (by exact htl) (by exact pre5) (by rfl) (by exact hq8) (by rw [← htl]; assumption)) (cv_of hg wM_X12_111 wN_X12_rows wL_X12_X12_rows wK_X12_rows wI_X12 (by decide +kernel) ⟨Nat.le_of_ble_eq_true rfl, Nat.le_of_ble_eq_true rfl⟩) hK hP hD hS hA (va_recv hK hP (ci := 14) (q0 := 0) rfl rfl) rfl hl.1 rfl (Nat.le_of_ble_eq_true rfl) dX12_done_82 ⟨by show 0 + (96000 - Y.2.2.2.2.2.2.2.1) ≤ 96000 - Y.2.2.2.2.2.2.2.1; omega, by show 0 + (10 * (96000 - Y.2.2.2.2.2.2.2.1) + 2 * (1542237 - Y.2.2.2.2.2.2.2.2.1)) ≤ 10 * (96000 - Y.2.2.2.2.2.2.2.1) + 2 * (1542237 - Y.2.2.2.2.2.2.2.2.1); omega⟩ (fun r_54 u_55 H locs q_53 hP hD hS => ?_)
      obtain ⟨r'_56, Y'_57, pa'_58, kp'_59, tl'_60, wr'_61, tw'_62, rfl, rfl, f_63⟩ := q_53
      have hP : va_P (dC, dI) vwCl (rW g ty Y'_57 pa'_58 kp'_59 ks I tl'_60 ac wr'_61 tw'_62) H := hP
      have hD : va_D A (rW g ty Y'_57 pa'_58 kp'_59 ks I tl'_60 ac wr'_61 tw'_62) := hD
      have hra := ra_L f_63
      refine W.bound (fun gb1 gb2 => ?_)
      have gb1 : H.size ≤ s.heap.size + (0 + (Y'_57.2.2.2.2.2.2.2.1 - Y.2.2.2.2.2.2.2.1)) := gb1
      have gb2 : hsum H ≤ hsum s.heap + (0 + (10 * (Y'_57.2.2.2.2.2.2.2.1 - Y.2.2.2.2.2.2.2.1) + 2 * (Y'_57.2.2.2.2.2.2.2.2.1 - Y.2.2.2.2.2.2.2.2.1))) := gb2
      refine W.widen (k := 96000 - Y.2.2.2.2.2.2.2.1) (n := 10 * (96000 - Y.2.2.2.2.2.2.2.1) + 2 * (1542237 - Y.2.2.2.2.2.2.2.2.1)) (by show 0 + (Y'_57.2.2.2.2.2.2.2.1 - Y.2.2.2.2.2.2.2.1) ≤ 96000 - Y.2.2.2.2.2.2.2.1; omega) (by show 0 + (10 * (Y'_57.2.2.2.2.2.2.2.1 - Y.2.2.2.2.2.2.2.1) + 2 * (Y'_57.2.2.2.2.2.2.2.2.1 - Y.2.2.2.2.2.2.2.2.1)) ≤ 10 * (96000 - Y.2.2.2.2.2.2.2.1) + 2 * (1542237 - Y.2.2.2.2.2.2.2.2.1); omega) ?_
      refine gr_l (wo := fun u : rY × (Nat → Int32) × (Nat → Int32) × (Nat → Int32) × Int32 × Int32 => rW g ty u.1 u.2.1 u.2.2.1 ks I u.2.2.2.1 ac u.2.2.2.2.1 u.2.2.2.2.2) ((Y'_57, pa'_58, kp'_59, tl'_60, wr'_61, tw'_62)) hx hb hr hlk hS hP hD (by show H.size ≤ sz + (Y'_57.2.2.2.2.2.2.2.1 - Y.2.2.2.2.2.2.2.1); rw [← hsz]; omega) (by show hsum H ≤ tot + (10 * (Y'_57.2.2.2.2.2.2.2.1 - Y.2.2.2.2.2.2.2.1) + 2 * (Y'_57.2.2.2.2.2.2.2.2.1 - Y.2.2.2.2.2.2.2.2.1)); rw [← htot]; omega) ?_ dX12_done_85
      exact ⟨r'_56, Y'_57, pa'_58, kp'_59, tl'_60, wr'_61, tw'_62, rfl, rfl, (by assumption)⟩
    · show _
      have hm6 : ¬ md < 6000 := by rw [← htl]; assumption
      have hu8 := full_makeSheet hq8 hm6
      subst hu8
      refine lv_aload_n hx hb dX12_done_58 rfl (lv_at hl 0 rfl) ?_
      refine lv_bipush (v := 6) hx hb dX12_done_59 (by decide) ?_
      refine cV_i (C := RX12) (n := 1) (rest := []) hx hb hml hown hg hT (c_X12_fails l dC dI g ty H.size Y pa kp ks I tl ac wr 0 6 ) (cv_of hg wM_X12_79 wN_X12_fails wL_X12_X12_fails wK_X12_fails wI_X12 (by decide +kernel) ⟨Nat.le_of_ble_eq_true rfl, Nat.le_of_ble_eq_true rfl⟩) hK hP hD hS hA (va_recv hK hP (ci := 14) (q0 := 0) rfl rfl) rfl hl.1 rfl (Nat.le_of_ble_eq_true rfl) dX12_done_61 ⟨by show 0 + 0 ≤ 96000 - Y.2.2.2.2.2.2.2.1; omega, by show 0 + 0 ≤ 10 * (96000 - Y.2.2.2.2.2.2.2.1) + 2 * (1542237 - Y.2.2.2.2.2.2.2.2.1); omega⟩ (fun r_65 u_66 H locs q_64 hP hD hS => ?_)
      obtain ⟨rfl, rfl⟩ := q_64
      have hP : va_P (dC, dI) vwCl (rW g ty Y pa kp ks I tl ac 6 0) H := hP
      have hD : va_D A (rW g ty Y pa kp ks I tl ac 6 0) := hD
      refine lv_pop hx hb dX12_done_64 rfl ?_
      refine lv_aload_n hx hb dX12_done_65 rfl (lv_at hl 0 rfl) ?_
      refine cV_l (C := RX12) (n := 0) (rest := []) hx hb hml hown hg hT (c_X12_no l dC dI g ty H.size Y pa kp ks I tl ac 6 0  ) (cv_of hg wM_X12_107 wN_X12_no wL_X12_X12_no wK_X12_no wI_X12 (by decide +kernel) ⟨Nat.le_of_ble_eq_true rfl, Nat.le_of_ble_eq_true rfl⟩) hK hP hD hS hA (va_recv hK hP (ci := 14) (q0 := 0) rfl rfl) rfl hl.1 rfl (Nat.le_of_ble_eq_true rfl) dX12_done_66 ⟨by show 0 + 0 + 0 ≤ 96000 - Y.2.2.2.2.2.2.2.1; omega, by show 0 + 0 + 0 ≤ 10 * (96000 - Y.2.2.2.2.2.2.2.1) + 2 * (1542237 - Y.2.2.2.2.2.2.2.2.1); omega⟩ (fun r_68 u_69 H locs q_67 hP hD hS => ?_)
      obtain ⟨rfl, rfl⟩ := q_67
      have hP : va_P (dC, dI) vwCl (rW g ty Y pa kp ks I tl ac 6 1) H := hP
      have hD : va_D A (rW g ty Y pa kp ks I tl ac 6 1) := hD
      refine W.bound (fun gb1 gb2 => ?_)
      have gb1 : H.size ≤ s.heap.size + (0 + 0 + 0) := gb1
      have gb2 : hsum H ≤ hsum s.heap + (0 + 0 + 0) := gb2
      refine W.widen (k := 96000 - Y.2.2.2.2.2.2.2.1) (n := 10 * (96000 - Y.2.2.2.2.2.2.2.1) + 2 * (1542237 - Y.2.2.2.2.2.2.2.2.1)) (by show 0 + 0 + 0 ≤ 96000 - Y.2.2.2.2.2.2.2.1; omega) (by show 0 + 0 + 0 ≤ 10 * (96000 - Y.2.2.2.2.2.2.2.1) + 2 * (1542237 - Y.2.2.2.2.2.2.2.2.1); omega) ?_
      refine gr_l (wo := fun u : rY × (Nat → Int32) × (Nat → Int32) × (Nat → Int32) × Int32 × Int32 => rW g ty u.1 u.2.1 u.2.2.1 ks I u.2.2.2.1 ac u.2.2.2.2.1 u.2.2.2.2.2) ((Y, pa, kp, tl, 6, 1)) hx hb hr hlk hS hP hD (by show H.size ≤ sz + (Y.2.2.2.2.2.2.2.1 - Y.2.2.2.2.2.2.2.1); rw [← hsz]; omega) (by show hsum H ≤ tot + (10 * (Y.2.2.2.2.2.2.2.1 - Y.2.2.2.2.2.2.2.1) + 2 * (Y.2.2.2.2.2.2.2.2.1 - Y.2.2.2.2.2.2.2.2.1)); rw [← htot]; omega) ?_ dX12_done_69
      exact ⟨0, Y, pa, kp, tl, 6, 1, rfl, rfl, (by exact ra_f (f := 6) rel hcnt htl (by decide))⟩
  · show _
    have hl : lv_has ls 5 [(0, .ref (g 8)), (1, .int 5), (2, .int a0), (3, .int b0), (4, .int c0)] := hl
    refine lv_aload_n hx hb dX12_done_0 rfl (lv_at hl 0 rfl) ?_
    refine lv_iconst (v := 0) hx hb dX12_done_1 (by decide) ?_
    refine va_put (D := (dC, dI)) (ci := 14) (v := .int 0) (ty := .boolean) (C := RX12) (T := TX12) (N := 21) hx hb hg inG12 tyX12 tyX12_ok nmX12 hown hK hP hD hS 0 rfl rfl 20 (by decide) (hg _ wF_X12_101) (fun _ h9 => h9) rfl (by decide +kernel) rfl rfl (Nat.le_of_ble_eq_true rfl) dX12_done_2 (fun H locs hP hD hS => ?_)
    have hP : va_P (dC, dI) vwCl (rW g ty Y pa kp ks I tl ac wr 0) H := hP
    have hD : va_D A (rW g ty Y pa kp ks I tl ac wr 0) := hD
    refine lv_iload_n hx hb dX12_done_5 rfl (lv_at hl 1 rfl) ?_
    refine lv_if_lt (tgt := 15) hx hb dX12_done_6 (by decide) (fun c9 => absurd c9 (by decide)) (fun _ => ?_)
    refine lv_iload_n hx hb dX12_done_9 rfl (lv_at hl 1 rfl) ?_
    refine lv_bipush (v := 31) hx hb dX12_done_10 (by decide) ?_
    refine lv_icmp_le (tgt := 19) hx hb dX12_done_12 (by decide) (fun _ => ?_) (fun c9 => absurd (by decide) c9) 
    refine lv_iload_n hx hb dX12_done_19 rfl (lv_at hl 1 rfl) ?_
    refine lv_if_eq (tgt := 46) hx hb dX12_done_20 (by decide) (fun c9 => absurd c9 (by decide)) (fun _ => ?_)
    refine lv_iload_n hx hb dX12_done_23 rfl (lv_at hl 1 rfl) ?_
    refine lv_iconst (v := 4) hx hb dX12_done_24 (by decide) ?_
    refine lv_icmp_eq (tgt := 46) hx hb dX12_done_25 (by decide) (fun c9 => absurd c9 (by decide)) (fun _ => ?_)
    refine lv_iload_n hx hb dX12_done_28 rfl (lv_at hl 1 rfl) ?_
    refine lv_bipush (v := 9) hx hb dX12_done_29 (by decide) ?_
    refine lv_icmp_eq (tgt := 46) hx hb dX12_done_31 (by decide) (fun c9 => absurd c9 (by decide)) (fun _ => ?_)
    refine lv_iload_n hx hb dX12_done_34 rfl (lv_at hl 1 rfl) ?_
    refine lv_bipush (v := 13) hx hb dX12_done_35 (by decide) ?_
    refine lv_icmp_eq (tgt := 46) hx hb dX12_done_37 (by decide) (fun c9 => absurd c9 (by decide)) (fun _ => ?_)
    refine lv_iload_n hx hb dX12_done_40 rfl (lv_at hl 1 rfl) ?_
    refine lv_bipush (v := 14) hx hb dX12_done_41 (by decide) ?_
    refine lv_icmp_ne (tgt := 70) hx hb dX12_done_43 (by decide) (fun _ => ?_) (fun c9 => absurd c9 (by decide)) 
    refine lv_iload_n hx hb dX12_done_70 rfl (lv_at hl 1 rfl) ?_
    refine lv_bipush (v := 8) hx hb dX12_done_71 (by decide) ?_
    refine lv_icmp_gt (tgt := 86) hx hb dX12_done_73 (by decide) (fun c9 => absurd c9 (by decide)) (fun _ => ?_)
    refine lv_aload_n hx hb dX12_done_76 rfl (lv_at hl 0 rfl) ?_
    refine lv_iload_n hx hb dX12_done_77 rfl (lv_at hl 1 rfl) ?_
    refine lv_iload_n hx hb dX12_done_78 rfl (lv_at hl 2 rfl) ?_
    refine lv_iload_n hx hb dX12_done_79 rfl (lv_at hl 3 rfl) ?_
    refine lv_iload hx hb dX12_done_80 (lv_at hl 4 rfl) ?_
    refine cV_l (C := RX12) (n := 4) (rest := []) hx hb hml hown hg hT (c_X12_rows_5 l dC dI g ty H.size Y pa kp ks I tl ac wr 0 ρ pl P md Z rz9 u8 a0 b0 c0 (by exact rel) (by exact wf) (by exact pre2) (by exact hcnt) (by exact htl) (by exact pre5) (by rfl) (by exact hq8)) (cv_of hg wM_X12_111 wN_X12_rows wL_X12_X12_rows wK_X12_rows wI_X12 (by decide +kernel) ⟨Nat.le_of_ble_eq_true rfl, Nat.le_of_ble_eq_true rfl⟩) hK hP hD hS hA (va_recv hK hP (ci := 14) (q0 := 0) rfl rfl) rfl hl.1 rfl (Nat.le_of_ble_eq_true rfl) dX12_done_82 ⟨by show 0 + 0 ≤ 96000 - Y.2.2.2.2.2.2.2.1; omega, by show 0 + 0 ≤ 10 * (96000 - Y.2.2.2.2.2.2.2.1) + 2 * (1542237 - Y.2.2.2.2.2.2.2.2.1); omega⟩ (fun r_71 u_72 H locs q_70 hP hD hS => ?_)
    obtain ⟨r'_73, Y'_74, pa'_75, kp'_76, tl'_77, wr'_78, tw'_79, rfl, rfl, f_80⟩ := q_70
    have hP : va_P (dC, dI) vwCl (rW g ty Y'_74 pa'_75 kp'_76 ks I tl'_77 ac wr'_78 tw'_79) H := hP
    have hD : va_D A (rW g ty Y'_74 pa'_75 kp'_76 ks I tl'_77 ac wr'_78 tw'_79) := hD
    refine W.bound (fun gb1 gb2 => ?_)
    have gb1 : H.size ≤ s.heap.size + (0 + 0) := gb1
    have gb2 : hsum H ≤ hsum s.heap + (0 + 0) := gb2
    refine W.widen (k := 96000 - Y.2.2.2.2.2.2.2.1) (n := 10 * (96000 - Y.2.2.2.2.2.2.2.1) + 2 * (1542237 - Y.2.2.2.2.2.2.2.2.1)) (by show 0 + 0 ≤ 96000 - Y.2.2.2.2.2.2.2.1; omega) (by show 0 + 0 ≤ 10 * (96000 - Y.2.2.2.2.2.2.2.1) + 2 * (1542237 - Y.2.2.2.2.2.2.2.2.1); omega) ?_
    refine gr_l (wo := fun u : rY × (Nat → Int32) × (Nat → Int32) × (Nat → Int32) × Int32 × Int32 => rW g ty u.1 u.2.1 u.2.2.1 ks I u.2.2.2.1 ac u.2.2.2.2.1 u.2.2.2.2.2) ((Y'_74, pa'_75, kp'_76, tl'_77, wr'_78, tw'_79)) hx hb hr hlk hS hP hD (by show H.size ≤ sz + (Y'_74.2.2.2.2.2.2.2.1 - Y.2.2.2.2.2.2.2.1); rw [← hsz]; omega) (by show hsum H ≤ tot + (10 * (Y'_74.2.2.2.2.2.2.2.1 - Y.2.2.2.2.2.2.2.1) + 2 * (Y'_74.2.2.2.2.2.2.2.2.1 - Y.2.2.2.2.2.2.2.2.1)); rw [← htot]; omega) ?_ dX12_done_85
    exact ⟨r'_73, Y'_74, pa'_75, kp'_76, tl'_77, wr'_78, tw'_79, rfl, rfl, (by assumption)⟩
  · show _
    have hl : lv_has ls 5 [(0, .ref (g 8)), (1, .int 6), (2, .int a0), (3, .int b0), (4, .int c0)] := hl
    refine lv_aload_n hx hb dX12_done_0 rfl (lv_at hl 0 rfl) ?_
    refine lv_iconst (v := 0) hx hb dX12_done_1 (by decide) ?_
    refine va_put (D := (dC, dI)) (ci := 14) (v := .int 0) (ty := .boolean) (C := RX12) (T := TX12) (N := 21) hx hb hg inG12 tyX12 tyX12_ok nmX12 hown hK hP hD hS 0 rfl rfl 20 (by decide) (hg _ wF_X12_101) (fun _ h9 => h9) rfl (by decide +kernel) rfl rfl (Nat.le_of_ble_eq_true rfl) dX12_done_2 (fun H locs hP hD hS => ?_)
    have hP : va_P (dC, dI) vwCl (rW g ty Y pa kp ks I tl ac wr 0) H := hP
    have hD : va_D A (rW g ty Y pa kp ks I tl ac wr 0) := hD
    refine lv_iload_n hx hb dX12_done_5 rfl (lv_at hl 1 rfl) ?_
    refine lv_if_lt (tgt := 15) hx hb dX12_done_6 (by decide) (fun c9 => absurd c9 (by decide)) (fun _ => ?_)
    refine lv_iload_n hx hb dX12_done_9 rfl (lv_at hl 1 rfl) ?_
    refine lv_bipush (v := 31) hx hb dX12_done_10 (by decide) ?_
    refine lv_icmp_le (tgt := 19) hx hb dX12_done_12 (by decide) (fun _ => ?_) (fun c9 => absurd (by decide) c9) 
    refine lv_iload_n hx hb dX12_done_19 rfl (lv_at hl 1 rfl) ?_
    refine lv_if_eq (tgt := 46) hx hb dX12_done_20 (by decide) (fun c9 => absurd c9 (by decide)) (fun _ => ?_)
    refine lv_iload_n hx hb dX12_done_23 rfl (lv_at hl 1 rfl) ?_
    refine lv_iconst (v := 4) hx hb dX12_done_24 (by decide) ?_
    refine lv_icmp_eq (tgt := 46) hx hb dX12_done_25 (by decide) (fun c9 => absurd c9 (by decide)) (fun _ => ?_)
    refine lv_iload_n hx hb dX12_done_28 rfl (lv_at hl 1 rfl) ?_
    refine lv_bipush (v := 9) hx hb dX12_done_29 (by decide) ?_
    refine lv_icmp_eq (tgt := 46) hx hb dX12_done_31 (by decide) (fun c9 => absurd c9 (by decide)) (fun _ => ?_)
    refine lv_iload_n hx hb dX12_done_34 rfl (lv_at hl 1 rfl) ?_
    refine lv_bipush (v := 13) hx hb dX12_done_35 (by decide) ?_
    refine lv_icmp_eq (tgt := 46) hx hb dX12_done_37 (by decide) (fun c9 => absurd c9 (by decide)) (fun _ => ?_)
    refine lv_iload_n hx hb dX12_done_40 rfl (lv_at hl 1 rfl) ?_
    refine lv_bipush (v := 14) hx hb dX12_done_41 (by decide) ?_
    refine lv_icmp_ne (tgt := 70) hx hb dX12_done_43 (by decide) (fun _ => ?_) (fun c9 => absurd c9 (by decide)) 
    refine lv_iload_n hx hb dX12_done_70 rfl (lv_at hl 1 rfl) ?_
    refine lv_bipush (v := 8) hx hb dX12_done_71 (by decide) ?_
    refine lv_icmp_gt (tgt := 86) hx hb dX12_done_73 (by decide) (fun c9 => absurd c9 (by decide)) (fun _ => ?_)
    refine lv_aload_n hx hb dX12_done_76 rfl (lv_at hl 0 rfl) ?_
    refine lv_iload_n hx hb dX12_done_77 rfl (lv_at hl 1 rfl) ?_
    refine lv_iload_n hx hb dX12_done_78 rfl (lv_at hl 2 rfl) ?_
    refine lv_iload_n hx hb dX12_done_79 rfl (lv_at hl 3 rfl) ?_
    refine lv_iload hx hb dX12_done_80 (lv_at hl 4 rfl) ?_
    refine cV_l (C := RX12) (n := 4) (rest := []) hx hb hml hown hg hT (c_X12_rows_6 l dC dI g ty H.size Y pa kp ks I tl ac wr 0 ρ pl P md Z rz9 u8 a0 b0 c0 (by exact rel) (by exact wf) (by exact pre2) (by exact hcnt) (by exact htl) (by exact pre5) (by rfl) (by exact hq8)) (cv_of hg wM_X12_111 wN_X12_rows wL_X12_X12_rows wK_X12_rows wI_X12 (by decide +kernel) ⟨Nat.le_of_ble_eq_true rfl, Nat.le_of_ble_eq_true rfl⟩) hK hP hD hS hA (va_recv hK hP (ci := 14) (q0 := 0) rfl rfl) rfl hl.1 rfl (Nat.le_of_ble_eq_true rfl) dX12_done_82 ⟨by show 0 + 0 ≤ 96000 - Y.2.2.2.2.2.2.2.1; omega, by show 0 + 0 ≤ 10 * (96000 - Y.2.2.2.2.2.2.2.1) + 2 * (1542237 - Y.2.2.2.2.2.2.2.2.1); omega⟩ (fun r_82 u_83 H locs q_81 hP hD hS => ?_)
    obtain ⟨r'_84, Y'_85, pa'_86, kp'_87, tl'_88, wr'_89, tw'_90, rfl, rfl, f_91⟩ := q_81
    have hP : va_P (dC, dI) vwCl (rW g ty Y'_85 pa'_86 kp'_87 ks I tl'_88 ac wr'_89 tw'_90) H := hP
    have hD : va_D A (rW g ty Y'_85 pa'_86 kp'_87 ks I tl'_88 ac wr'_89 tw'_90) := hD
    refine W.bound (fun gb1 gb2 => ?_)
    have gb1 : H.size ≤ s.heap.size + (0 + 0) := gb1
    have gb2 : hsum H ≤ hsum s.heap + (0 + 0) := gb2
    refine W.widen (k := 96000 - Y.2.2.2.2.2.2.2.1) (n := 10 * (96000 - Y.2.2.2.2.2.2.2.1) + 2 * (1542237 - Y.2.2.2.2.2.2.2.2.1)) (by show 0 + 0 ≤ 96000 - Y.2.2.2.2.2.2.2.1; omega) (by show 0 + 0 ≤ 10 * (96000 - Y.2.2.2.2.2.2.2.1) + 2 * (1542237 - Y.2.2.2.2.2.2.2.2.1); omega) ?_
    refine gr_l (wo := fun u : rY × (Nat → Int32) × (Nat → Int32) × (Nat → Int32) × Int32 × Int32 => rW g ty u.1 u.2.1 u.2.2.1 ks I u.2.2.2.1 ac u.2.2.2.2.1 u.2.2.2.2.2) ((Y'_85, pa'_86, kp'_87, tl'_88, wr'_89, tw'_90)) hx hb hr hlk hS hP hD (by show H.size ≤ sz + (Y'_85.2.2.2.2.2.2.2.1 - Y.2.2.2.2.2.2.2.1); rw [← hsz]; omega) (by show hsum H ≤ tot + (10 * (Y'_85.2.2.2.2.2.2.2.1 - Y.2.2.2.2.2.2.2.1) + 2 * (Y'_85.2.2.2.2.2.2.2.2.1 - Y.2.2.2.2.2.2.2.2.1)); rw [← htot]; omega) ?_ dX12_done_85
    exact ⟨r'_84, Y'_85, pa'_86, kp'_87, tl'_88, wr'_89, tw'_90, rfl, rfl, (by assumption)⟩
  · show _
    have hl : lv_has ls 5 [(0, .ref (g 8)), (1, .int 7), (2, .int a0), (3, .int b0), (4, .int c0)] := hl
    refine lv_aload_n hx hb dX12_done_0 rfl (lv_at hl 0 rfl) ?_
    refine lv_iconst (v := 0) hx hb dX12_done_1 (by decide) ?_
    refine va_put (D := (dC, dI)) (ci := 14) (v := .int 0) (ty := .boolean) (C := RX12) (T := TX12) (N := 21) hx hb hg inG12 tyX12 tyX12_ok nmX12 hown hK hP hD hS 0 rfl rfl 20 (by decide) (hg _ wF_X12_101) (fun _ h9 => h9) rfl (by decide +kernel) rfl rfl (Nat.le_of_ble_eq_true rfl) dX12_done_2 (fun H locs hP hD hS => ?_)
    have hP : va_P (dC, dI) vwCl (rW g ty Y pa kp ks I tl ac wr 0) H := hP
    have hD : va_D A (rW g ty Y pa kp ks I tl ac wr 0) := hD
    refine lv_iload_n hx hb dX12_done_5 rfl (lv_at hl 1 rfl) ?_
    refine lv_if_lt (tgt := 15) hx hb dX12_done_6 (by decide) (fun c9 => absurd c9 (by decide)) (fun _ => ?_)
    refine lv_iload_n hx hb dX12_done_9 rfl (lv_at hl 1 rfl) ?_
    refine lv_bipush (v := 31) hx hb dX12_done_10 (by decide) ?_
    refine lv_icmp_le (tgt := 19) hx hb dX12_done_12 (by decide) (fun _ => ?_) (fun c9 => absurd (by decide) c9) 
    refine lv_iload_n hx hb dX12_done_19 rfl (lv_at hl 1 rfl) ?_
    refine lv_if_eq (tgt := 46) hx hb dX12_done_20 (by decide) (fun c9 => absurd c9 (by decide)) (fun _ => ?_)
    refine lv_iload_n hx hb dX12_done_23 rfl (lv_at hl 1 rfl) ?_
    refine lv_iconst (v := 4) hx hb dX12_done_24 (by decide) ?_
    refine lv_icmp_eq (tgt := 46) hx hb dX12_done_25 (by decide) (fun c9 => absurd c9 (by decide)) (fun _ => ?_)
    refine lv_iload_n hx hb dX12_done_28 rfl (lv_at hl 1 rfl) ?_
    refine lv_bipush (v := 9) hx hb dX12_done_29 (by decide) ?_
    refine lv_icmp_eq (tgt := 46) hx hb dX12_done_31 (by decide) (fun c9 => absurd c9 (by decide)) (fun _ => ?_)
    refine lv_iload_n hx hb dX12_done_34 rfl (lv_at hl 1 rfl) ?_
    refine lv_bipush (v := 13) hx hb dX12_done_35 (by decide) ?_
    refine lv_icmp_eq (tgt := 46) hx hb dX12_done_37 (by decide) (fun c9 => absurd c9 (by decide)) (fun _ => ?_)
    refine lv_iload_n hx hb dX12_done_40 rfl (lv_at hl 1 rfl) ?_
    refine lv_bipush (v := 14) hx hb dX12_done_41 (by decide) ?_
    refine lv_icmp_ne (tgt := 70) hx hb dX12_done_43 (by decide) (fun _ => ?_) (fun c9 => absurd c9 (by decide)) 
    refine lv_iload_n hx hb dX12_done_70 rfl (lv_at hl 1 rfl) ?_
    refine lv_bipush (v := 8) hx hb dX12_done_71 (by decide) ?_
    refine lv_icmp_gt (tgt := 86) hx hb dX12_done_73 (by decide) (fun c9 => absurd c9 (by decide)) (fun _ => ?_)
    refine lv_aload_n hx hb dX12_done_76 rfl (lv_at hl 0 rfl) ?_
    refine lv_iload_n hx hb dX12_done_77 rfl (lv_at hl 1 rfl) ?_
    refine lv_iload_n hx hb dX12_done_78 rfl (lv_at hl 2 rfl) ?_
    refine lv_iload_n hx hb dX12_done_79 rfl (lv_at hl 3 rfl) ?_
    refine lv_iload hx hb dX12_done_80 (lv_at hl 4 rfl) ?_
    refine cV_l (C := RX12) (n := 4) (rest := []) hx hb hml hown hg hT (c_X12_rows_7 l dC dI g ty H.size Y pa kp ks I tl ac wr 0 ρ pl P md Z rz9 u8 a0 b0 c0 (by exact rel) (by exact wf) (by exact pre2) (by exact hcnt) (by exact htl) (by exact pre5) (by rfl) (by exact hq8)) (cv_of hg wM_X12_111 wN_X12_rows wL_X12_X12_rows wK_X12_rows wI_X12 (by decide +kernel) ⟨Nat.le_of_ble_eq_true rfl, Nat.le_of_ble_eq_true rfl⟩) hK hP hD hS hA (va_recv hK hP (ci := 14) (q0 := 0) rfl rfl) rfl hl.1 rfl (Nat.le_of_ble_eq_true rfl) dX12_done_82 ⟨by show 0 + 0 ≤ 96000 - Y.2.2.2.2.2.2.2.1; omega, by show 0 + 0 ≤ 10 * (96000 - Y.2.2.2.2.2.2.2.1) + 2 * (1542237 - Y.2.2.2.2.2.2.2.2.1); omega⟩ (fun r_93 u_94 H locs q_92 hP hD hS => ?_)
    obtain ⟨r'_95, Y'_96, pa'_97, kp'_98, tl'_99, wr'_100, tw'_101, rfl, rfl, f_102⟩ := q_92
    have hP : va_P (dC, dI) vwCl (rW g ty Y'_96 pa'_97 kp'_98 ks I tl'_99 ac wr'_100 tw'_101) H := hP
    have hD : va_D A (rW g ty Y'_96 pa'_97 kp'_98 ks I tl'_99 ac wr'_100 tw'_101) := hD
    refine W.bound (fun gb1 gb2 => ?_)
    have gb1 : H.size ≤ s.heap.size + (0 + 0) := gb1
    have gb2 : hsum H ≤ hsum s.heap + (0 + 0) := gb2
    refine W.widen (k := 96000 - Y.2.2.2.2.2.2.2.1) (n := 10 * (96000 - Y.2.2.2.2.2.2.2.1) + 2 * (1542237 - Y.2.2.2.2.2.2.2.2.1)) (by show 0 + 0 ≤ 96000 - Y.2.2.2.2.2.2.2.1; omega) (by show 0 + 0 ≤ 10 * (96000 - Y.2.2.2.2.2.2.2.1) + 2 * (1542237 - Y.2.2.2.2.2.2.2.2.1); omega) ?_
    refine gr_l (wo := fun u : rY × (Nat → Int32) × (Nat → Int32) × (Nat → Int32) × Int32 × Int32 => rW g ty u.1 u.2.1 u.2.2.1 ks I u.2.2.2.1 ac u.2.2.2.2.1 u.2.2.2.2.2) ((Y'_96, pa'_97, kp'_98, tl'_99, wr'_100, tw'_101)) hx hb hr hlk hS hP hD (by show H.size ≤ sz + (Y'_96.2.2.2.2.2.2.2.1 - Y.2.2.2.2.2.2.2.1); rw [← hsz]; omega) (by show hsum H ≤ tot + (10 * (Y'_96.2.2.2.2.2.2.2.1 - Y.2.2.2.2.2.2.2.1) + 2 * (Y'_96.2.2.2.2.2.2.2.2.1 - Y.2.2.2.2.2.2.2.2.1)); rw [← htot]; omega) ?_ dX12_done_85
    exact ⟨r'_95, Y'_96, pa'_97, kp'_98, tl'_99, wr'_100, tw'_101, rfl, rfl, (by assumption)⟩
  · show _
    have hl : lv_has ls 5 [(0, .ref (g 8)), (1, .int 8), (2, .int a0), (3, .int b0), (4, .int c0)] := hl
    refine lv_aload_n hx hb dX12_done_0 rfl (lv_at hl 0 rfl) ?_
    refine lv_iconst (v := 0) hx hb dX12_done_1 (by decide) ?_
    refine va_put (D := (dC, dI)) (ci := 14) (v := .int 0) (ty := .boolean) (C := RX12) (T := TX12) (N := 21) hx hb hg inG12 tyX12 tyX12_ok nmX12 hown hK hP hD hS 0 rfl rfl 20 (by decide) (hg _ wF_X12_101) (fun _ h9 => h9) rfl (by decide +kernel) rfl rfl (Nat.le_of_ble_eq_true rfl) dX12_done_2 (fun H locs hP hD hS => ?_)
    have hP : va_P (dC, dI) vwCl (rW g ty Y pa kp ks I tl ac wr 0) H := hP
    have hD : va_D A (rW g ty Y pa kp ks I tl ac wr 0) := hD
    refine lv_iload_n hx hb dX12_done_5 rfl (lv_at hl 1 rfl) ?_
    refine lv_if_lt (tgt := 15) hx hb dX12_done_6 (by decide) (fun c9 => absurd c9 (by decide)) (fun _ => ?_)
    refine lv_iload_n hx hb dX12_done_9 rfl (lv_at hl 1 rfl) ?_
    refine lv_bipush (v := 31) hx hb dX12_done_10 (by decide) ?_
    refine lv_icmp_le (tgt := 19) hx hb dX12_done_12 (by decide) (fun _ => ?_) (fun c9 => absurd (by decide) c9) 
    refine lv_iload_n hx hb dX12_done_19 rfl (lv_at hl 1 rfl) ?_
    refine lv_if_eq (tgt := 46) hx hb dX12_done_20 (by decide) (fun c9 => absurd c9 (by decide)) (fun _ => ?_)
    refine lv_iload_n hx hb dX12_done_23 rfl (lv_at hl 1 rfl) ?_
    refine lv_iconst (v := 4) hx hb dX12_done_24 (by decide) ?_
    refine lv_icmp_eq (tgt := 46) hx hb dX12_done_25 (by decide) (fun c9 => absurd c9 (by decide)) (fun _ => ?_)
    refine lv_iload_n hx hb dX12_done_28 rfl (lv_at hl 1 rfl) ?_
    refine lv_bipush (v := 9) hx hb dX12_done_29 (by decide) ?_
    refine lv_icmp_eq (tgt := 46) hx hb dX12_done_31 (by decide) (fun c9 => absurd c9 (by decide)) (fun _ => ?_)
    refine lv_iload_n hx hb dX12_done_34 rfl (lv_at hl 1 rfl) ?_
    refine lv_bipush (v := 13) hx hb dX12_done_35 (by decide) ?_
    refine lv_icmp_eq (tgt := 46) hx hb dX12_done_37 (by decide) (fun c9 => absurd c9 (by decide)) (fun _ => ?_)
    refine lv_iload_n hx hb dX12_done_40 rfl (lv_at hl 1 rfl) ?_
    refine lv_bipush (v := 14) hx hb dX12_done_41 (by decide) ?_
    refine lv_icmp_ne (tgt := 70) hx hb dX12_done_43 (by decide) (fun _ => ?_) (fun c9 => absurd c9 (by decide)) 
    refine lv_iload_n hx hb dX12_done_70 rfl (lv_at hl 1 rfl) ?_
    refine lv_bipush (v := 8) hx hb dX12_done_71 (by decide) ?_
    refine lv_icmp_gt (tgt := 86) hx hb dX12_done_73 (by decide) (fun c9 => absurd c9 (by decide)) (fun _ => ?_)
    refine lv_aload_n hx hb dX12_done_76 rfl (lv_at hl 0 rfl) ?_
    refine lv_iload_n hx hb dX12_done_77 rfl (lv_at hl 1 rfl) ?_
    refine lv_iload_n hx hb dX12_done_78 rfl (lv_at hl 2 rfl) ?_
    refine lv_iload_n hx hb dX12_done_79 rfl (lv_at hl 3 rfl) ?_
    refine lv_iload hx hb dX12_done_80 (lv_at hl 4 rfl) ?_
    refine cV_l (C := RX12) (n := 4) (rest := []) hx hb hml hown hg hT (c_X12_rows_8 l dC dI g ty H.size Y pa kp ks I tl ac wr 0 ρ pl P md Z rz9 u8 a0 b0 c0 (by exact rel) (by exact wf) (by exact pre2) (by exact hcnt) (by exact htl) (by exact pre5) (by rfl) (by exact hq8)) (cv_of hg wM_X12_111 wN_X12_rows wL_X12_X12_rows wK_X12_rows wI_X12 (by decide +kernel) ⟨Nat.le_of_ble_eq_true rfl, Nat.le_of_ble_eq_true rfl⟩) hK hP hD hS hA (va_recv hK hP (ci := 14) (q0 := 0) rfl rfl) rfl hl.1 rfl (Nat.le_of_ble_eq_true rfl) dX12_done_82 ⟨by show 0 + 0 ≤ 96000 - Y.2.2.2.2.2.2.2.1; omega, by show 0 + 0 ≤ 10 * (96000 - Y.2.2.2.2.2.2.2.1) + 2 * (1542237 - Y.2.2.2.2.2.2.2.2.1); omega⟩ (fun r_104 u_105 H locs q_103 hP hD hS => ?_)
    obtain ⟨r'_106, Y'_107, pa'_108, kp'_109, tl'_110, wr'_111, tw'_112, rfl, rfl, f_113⟩ := q_103
    have hP : va_P (dC, dI) vwCl (rW g ty Y'_107 pa'_108 kp'_109 ks I tl'_110 ac wr'_111 tw'_112) H := hP
    have hD : va_D A (rW g ty Y'_107 pa'_108 kp'_109 ks I tl'_110 ac wr'_111 tw'_112) := hD
    refine W.bound (fun gb1 gb2 => ?_)
    have gb1 : H.size ≤ s.heap.size + (0 + 0) := gb1
    have gb2 : hsum H ≤ hsum s.heap + (0 + 0) := gb2
    refine W.widen (k := 96000 - Y.2.2.2.2.2.2.2.1) (n := 10 * (96000 - Y.2.2.2.2.2.2.2.1) + 2 * (1542237 - Y.2.2.2.2.2.2.2.2.1)) (by show 0 + 0 ≤ 96000 - Y.2.2.2.2.2.2.2.1; omega) (by show 0 + 0 ≤ 10 * (96000 - Y.2.2.2.2.2.2.2.1) + 2 * (1542237 - Y.2.2.2.2.2.2.2.2.1); omega) ?_
    refine gr_l (wo := fun u : rY × (Nat → Int32) × (Nat → Int32) × (Nat → Int32) × Int32 × Int32 => rW g ty u.1 u.2.1 u.2.2.1 ks I u.2.2.2.1 ac u.2.2.2.2.1 u.2.2.2.2.2) ((Y'_107, pa'_108, kp'_109, tl'_110, wr'_111, tw'_112)) hx hb hr hlk hS hP hD (by show H.size ≤ sz + (Y'_107.2.2.2.2.2.2.2.1 - Y.2.2.2.2.2.2.2.1); rw [← hsz]; omega) (by show hsum H ≤ tot + (10 * (Y'_107.2.2.2.2.2.2.2.1 - Y.2.2.2.2.2.2.2.1) + 2 * (Y'_107.2.2.2.2.2.2.2.2.1 - Y.2.2.2.2.2.2.2.2.1)); rw [← htot]; omega) ?_ dX12_done_85
    exact ⟨r'_106, Y'_107, pa'_108, kp'_109, tl'_110, wr'_111, tw'_112, rfl, rfl, (by assumption)⟩
  · show _
    have hl : lv_has ls 5 [(0, .ref (g 8)), (1, .int 9), (2, .int a0), (3, .int b0), (4, .int c0)] := hl
    refine lv_aload_n hx hb dX12_done_0 rfl (lv_at hl 0 rfl) ?_
    refine lv_iconst (v := 0) hx hb dX12_done_1 (by decide) ?_
    refine va_put (D := (dC, dI)) (ci := 14) (v := .int 0) (ty := .boolean) (C := RX12) (T := TX12) (N := 21) hx hb hg inG12 tyX12 tyX12_ok nmX12 hown hK hP hD hS 0 rfl rfl 20 (by decide) (hg _ wF_X12_101) (fun _ h9 => h9) rfl (by decide +kernel) rfl rfl (Nat.le_of_ble_eq_true rfl) dX12_done_2 (fun H locs hP hD hS => ?_)
    have hP : va_P (dC, dI) vwCl (rW g ty Y pa kp ks I tl ac wr 0) H := hP
    have hD : va_D A (rW g ty Y pa kp ks I tl ac wr 0) := hD
    refine lv_iload_n hx hb dX12_done_5 rfl (lv_at hl 1 rfl) ?_
    refine lv_if_lt (tgt := 15) hx hb dX12_done_6 (by decide) (fun c9 => absurd c9 (by decide)) (fun _ => ?_)
    refine lv_iload_n hx hb dX12_done_9 rfl (lv_at hl 1 rfl) ?_
    refine lv_bipush (v := 31) hx hb dX12_done_10 (by decide) ?_
    refine lv_icmp_le (tgt := 19) hx hb dX12_done_12 (by decide) (fun _ => ?_) (fun c9 => absurd (by decide) c9) 
    refine lv_iload_n hx hb dX12_done_19 rfl (lv_at hl 1 rfl) ?_
    refine lv_if_eq (tgt := 46) hx hb dX12_done_20 (by decide) (fun c9 => absurd c9 (by decide)) (fun _ => ?_)
    refine lv_iload_n hx hb dX12_done_23 rfl (lv_at hl 1 rfl) ?_
    refine lv_iconst (v := 4) hx hb dX12_done_24 (by decide) ?_
    refine lv_icmp_eq (tgt := 46) hx hb dX12_done_25 (by decide) (fun c9 => absurd c9 (by decide)) (fun _ => ?_)
    refine lv_iload_n hx hb dX12_done_28 rfl (lv_at hl 1 rfl) ?_
    refine lv_bipush (v := 9) hx hb dX12_done_29 (by decide) ?_
    refine lv_icmp_eq (tgt := 46) hx hb dX12_done_31 (by decide) (fun _ => ?_) (fun c9 => absurd (by decide) c9) 
    refine lv_aload_n hx hb dX12_done_46 rfl (lv_at hl 0 rfl) ?_
    refine va_get (D := (dC, dI)) (ci := 14) (v := .ref (g 14)) (C := RX12) (T := TX12) (N := 21) hx hb hg inG12 hown hK hP 0 rfl rfl 17 (by decide) (hg _ wF_X12_49) (fun _ h9 => h9) rfl dX12_done_47 ?_
    refine lv_iconst (v := 5) hx hb dX12_done_50 (by decide) ?_
    refine va_iald hx hb hK hP 12 0 rfl rfl (by exact i32_in (by decide) (by decide)) dX12_done_51 ?_
    refine lv_sipush (v := 6000) hx hb dX12_done_52 (by decide) ?_
    refine lv_icmp_lt (tgt := 70) hx hb dX12_done_55 (by decide) (fun c_114 => ?_) (fun c_114 => ?_)
    · show _
      refine lv_iload_n hx hb dX12_done_70 rfl (lv_at hl 1 rfl) ?_
      refine lv_bipush (v := 8) hx hb dX12_done_71 (by decide) ?_
      refine lv_icmp_gt (tgt := 86) hx hb dX12_done_73 (by decide) (fun _ => ?_) (fun c9 => absurd (by decide) c9) 
      refine lv_iload_n hx hb dX12_done_86 rfl (lv_at hl 1 rfl) ?_
      refine lv_bipush (v := 21) hx hb dX12_done_87 (by decide) ?_
      refine lv_icmp_gt (tgt := 102) hx hb dX12_done_89 (by decide) (fun c9 => absurd c9 (by decide)) (fun _ => ?_)
      refine lv_aload_n hx hb dX12_done_92 rfl (lv_at hl 0 rfl) ?_
      refine lv_iload_n hx hb dX12_done_93 rfl (lv_at hl 1 rfl) ?_
      refine lv_iload_n hx hb dX12_done_94 rfl (lv_at hl 2 rfl) ?_
      refine lv_iload_n hx hb dX12_done_95 rfl (lv_at hl 3 rfl) ?_
      refine lv_iload hx hb dX12_done_96 (lv_at hl 4 rfl) ?_
      refine gV_l (C := RX12) (n := 4) (rest := []) hx hb hml hown hg hT (c_X12_boxes_9 l dC dI g ty H.size (hsum H) Y pa kp ks I tl ac wr 0 ρ pl P md Z rz9 u8 a0 b0 c0 (by exact rel) (by exact wf) (by exact pre2) (by exact hcnt) (by exact htl) (by exact pre5) (by rfl) (by exact hq8) (by rw [← htl]; assumption)) (cv_of hg wM_X12_115 wN_X12_boxes wL_X12_X12_boxes wK_X12_boxes wI_X12 (by decide +kernel) ⟨Nat.le_of_ble_eq_true rfl, Nat.le_of_ble_eq_true rfl⟩) hK hP hD hS hA (va_recv hK hP (ci := 14) (q0 := 0) rfl rfl) rfl hl.1 rfl (Nat.le_of_ble_eq_true rfl) dX12_done_98 ⟨by show 0 + (96000 - Y.2.2.2.2.2.2.2.1) ≤ 96000 - Y.2.2.2.2.2.2.2.1; omega, by show 0 + (10 * (96000 - Y.2.2.2.2.2.2.2.1) + 2 * (1542237 - Y.2.2.2.2.2.2.2.2.1)) ≤ 10 * (96000 - Y.2.2.2.2.2.2.2.1) + 2 * (1542237 - Y.2.2.2.2.2.2.2.2.1); omega⟩ (fun r_116 u_117 H locs q_115 hP hD hS => ?_)
      obtain ⟨r'_118, Y'_119, pa'_120, kp'_121, tl'_122, wr'_123, tw'_124, rfl, rfl, f_125⟩ := q_115
      have hP : va_P (dC, dI) vwCl (rW g ty Y'_119 pa'_120 kp'_121 ks I tl'_122 ac wr'_123 tw'_124) H := hP
      have hD : va_D A (rW g ty Y'_119 pa'_120 kp'_121 ks I tl'_122 ac wr'_123 tw'_124) := hD
      have hra := ra_L f_125
      refine W.bound (fun gb1 gb2 => ?_)
      have gb1 : H.size ≤ s.heap.size + (0 + (Y'_119.2.2.2.2.2.2.2.1 - Y.2.2.2.2.2.2.2.1)) := gb1
      have gb2 : hsum H ≤ hsum s.heap + (0 + (10 * (Y'_119.2.2.2.2.2.2.2.1 - Y.2.2.2.2.2.2.2.1) + 2 * (Y'_119.2.2.2.2.2.2.2.2.1 - Y.2.2.2.2.2.2.2.2.1))) := gb2
      refine W.widen (k := 96000 - Y.2.2.2.2.2.2.2.1) (n := 10 * (96000 - Y.2.2.2.2.2.2.2.1) + 2 * (1542237 - Y.2.2.2.2.2.2.2.2.1)) (by show 0 + (Y'_119.2.2.2.2.2.2.2.1 - Y.2.2.2.2.2.2.2.1) ≤ 96000 - Y.2.2.2.2.2.2.2.1; omega) (by show 0 + (10 * (Y'_119.2.2.2.2.2.2.2.1 - Y.2.2.2.2.2.2.2.1) + 2 * (Y'_119.2.2.2.2.2.2.2.2.1 - Y.2.2.2.2.2.2.2.2.1)) ≤ 10 * (96000 - Y.2.2.2.2.2.2.2.1) + 2 * (1542237 - Y.2.2.2.2.2.2.2.2.1); omega) ?_
      refine gr_l (wo := fun u : rY × (Nat → Int32) × (Nat → Int32) × (Nat → Int32) × Int32 × Int32 => rW g ty u.1 u.2.1 u.2.2.1 ks I u.2.2.2.1 ac u.2.2.2.2.1 u.2.2.2.2.2) ((Y'_119, pa'_120, kp'_121, tl'_122, wr'_123, tw'_124)) hx hb hr hlk hS hP hD (by show H.size ≤ sz + (Y'_119.2.2.2.2.2.2.2.1 - Y.2.2.2.2.2.2.2.1); rw [← hsz]; omega) (by show hsum H ≤ tot + (10 * (Y'_119.2.2.2.2.2.2.2.1 - Y.2.2.2.2.2.2.2.1) + 2 * (Y'_119.2.2.2.2.2.2.2.2.1 - Y.2.2.2.2.2.2.2.2.1)); rw [← htot]; omega) ?_ dX12_done_101
      exact ⟨r'_118, Y'_119, pa'_120, kp'_121, tl'_122, wr'_123, tw'_124, rfl, rfl, (by assumption)⟩
    · show _
      have hm6 : ¬ md < 6000 := by rw [← htl]; assumption
      have hu8 := full_makeCase hq8 hm6
      subst hu8
      refine lv_aload_n hx hb dX12_done_58 rfl (lv_at hl 0 rfl) ?_
      refine lv_bipush (v := 6) hx hb dX12_done_59 (by decide) ?_
      refine cV_i (C := RX12) (n := 1) (rest := []) hx hb hml hown hg hT (c_X12_fails l dC dI g ty H.size Y pa kp ks I tl ac wr 0 6 ) (cv_of hg wM_X12_79 wN_X12_fails wL_X12_X12_fails wK_X12_fails wI_X12 (by decide +kernel) ⟨Nat.le_of_ble_eq_true rfl, Nat.le_of_ble_eq_true rfl⟩) hK hP hD hS hA (va_recv hK hP (ci := 14) (q0 := 0) rfl rfl) rfl hl.1 rfl (Nat.le_of_ble_eq_true rfl) dX12_done_61 ⟨by show 0 + 0 ≤ 96000 - Y.2.2.2.2.2.2.2.1; omega, by show 0 + 0 ≤ 10 * (96000 - Y.2.2.2.2.2.2.2.1) + 2 * (1542237 - Y.2.2.2.2.2.2.2.2.1); omega⟩ (fun r_127 u_128 H locs q_126 hP hD hS => ?_)
      obtain ⟨rfl, rfl⟩ := q_126
      have hP : va_P (dC, dI) vwCl (rW g ty Y pa kp ks I tl ac 6 0) H := hP
      have hD : va_D A (rW g ty Y pa kp ks I tl ac 6 0) := hD
      refine lv_pop hx hb dX12_done_64 rfl ?_
      refine lv_aload_n hx hb dX12_done_65 rfl (lv_at hl 0 rfl) ?_
      refine cV_l (C := RX12) (n := 0) (rest := []) hx hb hml hown hg hT (c_X12_no l dC dI g ty H.size Y pa kp ks I tl ac 6 0  ) (cv_of hg wM_X12_107 wN_X12_no wL_X12_X12_no wK_X12_no wI_X12 (by decide +kernel) ⟨Nat.le_of_ble_eq_true rfl, Nat.le_of_ble_eq_true rfl⟩) hK hP hD hS hA (va_recv hK hP (ci := 14) (q0 := 0) rfl rfl) rfl hl.1 rfl (Nat.le_of_ble_eq_true rfl) dX12_done_66 ⟨by show 0 + 0 + 0 ≤ 96000 - Y.2.2.2.2.2.2.2.1; omega, by show 0 + 0 + 0 ≤ 10 * (96000 - Y.2.2.2.2.2.2.2.1) + 2 * (1542237 - Y.2.2.2.2.2.2.2.2.1); omega⟩ (fun r_130 u_131 H locs q_129 hP hD hS => ?_)
      obtain ⟨rfl, rfl⟩ := q_129
      have hP : va_P (dC, dI) vwCl (rW g ty Y pa kp ks I tl ac 6 1) H := hP
      have hD : va_D A (rW g ty Y pa kp ks I tl ac 6 1) := hD
      refine W.bound (fun gb1 gb2 => ?_)
      have gb1 : H.size ≤ s.heap.size + (0 + 0 + 0) := gb1
      have gb2 : hsum H ≤ hsum s.heap + (0 + 0 + 0) := gb2
      refine W.widen (k := 96000 - Y.2.2.2.2.2.2.2.1) (n := 10 * (96000 - Y.2.2.2.2.2.2.2.1) + 2 * (1542237 - Y.2.2.2.2.2.2.2.2.1)) (by show 0 + 0 + 0 ≤ 96000 - Y.2.2.2.2.2.2.2.1; omega) (by show 0 + 0 + 0 ≤ 10 * (96000 - Y.2.2.2.2.2.2.2.1) + 2 * (1542237 - Y.2.2.2.2.2.2.2.2.1); omega) ?_
      refine gr_l (wo := fun u : rY × (Nat → Int32) × (Nat → Int32) × (Nat → Int32) × Int32 × Int32 => rW g ty u.1 u.2.1 u.2.2.1 ks I u.2.2.2.1 ac u.2.2.2.2.1 u.2.2.2.2.2) ((Y, pa, kp, tl, 6, 1)) hx hb hr hlk hS hP hD (by show H.size ≤ sz + (Y.2.2.2.2.2.2.2.1 - Y.2.2.2.2.2.2.2.1); rw [← hsz]; omega) (by show hsum H ≤ tot + (10 * (Y.2.2.2.2.2.2.2.1 - Y.2.2.2.2.2.2.2.1) + 2 * (Y.2.2.2.2.2.2.2.2.1 - Y.2.2.2.2.2.2.2.2.1)); rw [← htot]; omega) ?_ dX12_done_69
      exact ⟨0, Y, pa, kp, tl, 6, 1, rfl, rfl, (by exact ra_f (f := 6) rel hcnt htl (by decide))⟩
  · show _
    have hl : lv_has ls 5 [(0, .ref (g 8)), (1, .int 10), (2, .int a0), (3, .int b0), (4, .int c0)] := hl
    refine lv_aload_n hx hb dX12_done_0 rfl (lv_at hl 0 rfl) ?_
    refine lv_iconst (v := 0) hx hb dX12_done_1 (by decide) ?_
    refine va_put (D := (dC, dI)) (ci := 14) (v := .int 0) (ty := .boolean) (C := RX12) (T := TX12) (N := 21) hx hb hg inG12 tyX12 tyX12_ok nmX12 hown hK hP hD hS 0 rfl rfl 20 (by decide) (hg _ wF_X12_101) (fun _ h9 => h9) rfl (by decide +kernel) rfl rfl (Nat.le_of_ble_eq_true rfl) dX12_done_2 (fun H locs hP hD hS => ?_)
    have hP : va_P (dC, dI) vwCl (rW g ty Y pa kp ks I tl ac wr 0) H := hP
    have hD : va_D A (rW g ty Y pa kp ks I tl ac wr 0) := hD
    refine lv_iload_n hx hb dX12_done_5 rfl (lv_at hl 1 rfl) ?_
    refine lv_if_lt (tgt := 15) hx hb dX12_done_6 (by decide) (fun c9 => absurd c9 (by decide)) (fun _ => ?_)
    refine lv_iload_n hx hb dX12_done_9 rfl (lv_at hl 1 rfl) ?_
    refine lv_bipush (v := 31) hx hb dX12_done_10 (by decide) ?_
    refine lv_icmp_le (tgt := 19) hx hb dX12_done_12 (by decide) (fun _ => ?_) (fun c9 => absurd (by decide) c9) 
    refine lv_iload_n hx hb dX12_done_19 rfl (lv_at hl 1 rfl) ?_
    refine lv_if_eq (tgt := 46) hx hb dX12_done_20 (by decide) (fun c9 => absurd c9 (by decide)) (fun _ => ?_)
    refine lv_iload_n hx hb dX12_done_23 rfl (lv_at hl 1 rfl) ?_
    refine lv_iconst (v := 4) hx hb dX12_done_24 (by decide) ?_
    refine lv_icmp_eq (tgt := 46) hx hb dX12_done_25 (by decide) (fun c9 => absurd c9 (by decide)) (fun _ => ?_)
    refine lv_iload_n hx hb dX12_done_28 rfl (lv_at hl 1 rfl) ?_
    refine lv_bipush (v := 9) hx hb dX12_done_29 (by decide) ?_
    refine lv_icmp_eq (tgt := 46) hx hb dX12_done_31 (by decide) (fun c9 => absurd c9 (by decide)) (fun _ => ?_)
    refine lv_iload_n hx hb dX12_done_34 rfl (lv_at hl 1 rfl) ?_
    refine lv_bipush (v := 13) hx hb dX12_done_35 (by decide) ?_
    refine lv_icmp_eq (tgt := 46) hx hb dX12_done_37 (by decide) (fun c9 => absurd c9 (by decide)) (fun _ => ?_)
    refine lv_iload_n hx hb dX12_done_40 rfl (lv_at hl 1 rfl) ?_
    refine lv_bipush (v := 14) hx hb dX12_done_41 (by decide) ?_
    refine lv_icmp_ne (tgt := 70) hx hb dX12_done_43 (by decide) (fun _ => ?_) (fun c9 => absurd c9 (by decide)) 
    refine lv_iload_n hx hb dX12_done_70 rfl (lv_at hl 1 rfl) ?_
    refine lv_bipush (v := 8) hx hb dX12_done_71 (by decide) ?_
    refine lv_icmp_gt (tgt := 86) hx hb dX12_done_73 (by decide) (fun _ => ?_) (fun c9 => absurd (by decide) c9) 
    refine lv_iload_n hx hb dX12_done_86 rfl (lv_at hl 1 rfl) ?_
    refine lv_bipush (v := 21) hx hb dX12_done_87 (by decide) ?_
    refine lv_icmp_gt (tgt := 102) hx hb dX12_done_89 (by decide) (fun c9 => absurd c9 (by decide)) (fun _ => ?_)
    refine lv_aload_n hx hb dX12_done_92 rfl (lv_at hl 0 rfl) ?_
    refine lv_iload_n hx hb dX12_done_93 rfl (lv_at hl 1 rfl) ?_
    refine lv_iload_n hx hb dX12_done_94 rfl (lv_at hl 2 rfl) ?_
    refine lv_iload_n hx hb dX12_done_95 rfl (lv_at hl 3 rfl) ?_
    refine lv_iload hx hb dX12_done_96 (lv_at hl 4 rfl) ?_
    refine cV_l (C := RX12) (n := 4) (rest := []) hx hb hml hown hg hT (c_X12_boxes_10 l dC dI g ty H.size Y pa kp ks I tl ac wr 0 ρ pl P md Z rz9 u8 a0 b0 c0 (by exact rel) (by exact wf) (by exact pre2) (by exact hcnt) (by exact htl) (by exact pre5) (by rfl) (by exact hq8)) (cv_of hg wM_X12_115 wN_X12_boxes wL_X12_X12_boxes wK_X12_boxes wI_X12 (by decide +kernel) ⟨Nat.le_of_ble_eq_true rfl, Nat.le_of_ble_eq_true rfl⟩) hK hP hD hS hA (va_recv hK hP (ci := 14) (q0 := 0) rfl rfl) rfl hl.1 rfl (Nat.le_of_ble_eq_true rfl) dX12_done_98 ⟨by show 0 + 0 ≤ 96000 - Y.2.2.2.2.2.2.2.1; omega, by show 0 + 0 ≤ 10 * (96000 - Y.2.2.2.2.2.2.2.1) + 2 * (1542237 - Y.2.2.2.2.2.2.2.2.1); omega⟩ (fun r_133 u_134 H locs q_132 hP hD hS => ?_)
    obtain ⟨r'_135, Y'_136, pa'_137, kp'_138, tl'_139, wr'_140, tw'_141, rfl, rfl, f_142⟩ := q_132
    have hP : va_P (dC, dI) vwCl (rW g ty Y'_136 pa'_137 kp'_138 ks I tl'_139 ac wr'_140 tw'_141) H := hP
    have hD : va_D A (rW g ty Y'_136 pa'_137 kp'_138 ks I tl'_139 ac wr'_140 tw'_141) := hD
    refine W.bound (fun gb1 gb2 => ?_)
    have gb1 : H.size ≤ s.heap.size + (0 + 0) := gb1
    have gb2 : hsum H ≤ hsum s.heap + (0 + 0) := gb2
    refine W.widen (k := 96000 - Y.2.2.2.2.2.2.2.1) (n := 10 * (96000 - Y.2.2.2.2.2.2.2.1) + 2 * (1542237 - Y.2.2.2.2.2.2.2.2.1)) (by show 0 + 0 ≤ 96000 - Y.2.2.2.2.2.2.2.1; omega) (by show 0 + 0 ≤ 10 * (96000 - Y.2.2.2.2.2.2.2.1) + 2 * (1542237 - Y.2.2.2.2.2.2.2.2.1); omega) ?_
    refine gr_l (wo := fun u : rY × (Nat → Int32) × (Nat → Int32) × (Nat → Int32) × Int32 × Int32 => rW g ty u.1 u.2.1 u.2.2.1 ks I u.2.2.2.1 ac u.2.2.2.2.1 u.2.2.2.2.2) ((Y'_136, pa'_137, kp'_138, tl'_139, wr'_140, tw'_141)) hx hb hr hlk hS hP hD (by show H.size ≤ sz + (Y'_136.2.2.2.2.2.2.2.1 - Y.2.2.2.2.2.2.2.1); rw [← hsz]; omega) (by show hsum H ≤ tot + (10 * (Y'_136.2.2.2.2.2.2.2.1 - Y.2.2.2.2.2.2.2.1) + 2 * (Y'_136.2.2.2.2.2.2.2.2.1 - Y.2.2.2.2.2.2.2.2.1)); rw [← htot]; omega) ?_ dX12_done_101
    exact ⟨r'_135, Y'_136, pa'_137, kp'_138, tl'_139, wr'_140, tw'_141, rfl, rfl, (by assumption)⟩
  · show _
    have hl : lv_has ls 5 [(0, .ref (g 8)), (1, .int 11), (2, .int a0), (3, .int b0), (4, .int c0)] := hl
    refine lv_aload_n hx hb dX12_done_0 rfl (lv_at hl 0 rfl) ?_
    refine lv_iconst (v := 0) hx hb dX12_done_1 (by decide) ?_
    refine va_put (D := (dC, dI)) (ci := 14) (v := .int 0) (ty := .boolean) (C := RX12) (T := TX12) (N := 21) hx hb hg inG12 tyX12 tyX12_ok nmX12 hown hK hP hD hS 0 rfl rfl 20 (by decide) (hg _ wF_X12_101) (fun _ h9 => h9) rfl (by decide +kernel) rfl rfl (Nat.le_of_ble_eq_true rfl) dX12_done_2 (fun H locs hP hD hS => ?_)
    have hP : va_P (dC, dI) vwCl (rW g ty Y pa kp ks I tl ac wr 0) H := hP
    have hD : va_D A (rW g ty Y pa kp ks I tl ac wr 0) := hD
    refine lv_iload_n hx hb dX12_done_5 rfl (lv_at hl 1 rfl) ?_
    refine lv_if_lt (tgt := 15) hx hb dX12_done_6 (by decide) (fun c9 => absurd c9 (by decide)) (fun _ => ?_)
    refine lv_iload_n hx hb dX12_done_9 rfl (lv_at hl 1 rfl) ?_
    refine lv_bipush (v := 31) hx hb dX12_done_10 (by decide) ?_
    refine lv_icmp_le (tgt := 19) hx hb dX12_done_12 (by decide) (fun _ => ?_) (fun c9 => absurd (by decide) c9) 
    refine lv_iload_n hx hb dX12_done_19 rfl (lv_at hl 1 rfl) ?_
    refine lv_if_eq (tgt := 46) hx hb dX12_done_20 (by decide) (fun c9 => absurd c9 (by decide)) (fun _ => ?_)
    refine lv_iload_n hx hb dX12_done_23 rfl (lv_at hl 1 rfl) ?_
    refine lv_iconst (v := 4) hx hb dX12_done_24 (by decide) ?_
    refine lv_icmp_eq (tgt := 46) hx hb dX12_done_25 (by decide) (fun c9 => absurd c9 (by decide)) (fun _ => ?_)
    refine lv_iload_n hx hb dX12_done_28 rfl (lv_at hl 1 rfl) ?_
    refine lv_bipush (v := 9) hx hb dX12_done_29 (by decide) ?_
    refine lv_icmp_eq (tgt := 46) hx hb dX12_done_31 (by decide) (fun c9 => absurd c9 (by decide)) (fun _ => ?_)
    refine lv_iload_n hx hb dX12_done_34 rfl (lv_at hl 1 rfl) ?_
    refine lv_bipush (v := 13) hx hb dX12_done_35 (by decide) ?_
    refine lv_icmp_eq (tgt := 46) hx hb dX12_done_37 (by decide) (fun c9 => absurd c9 (by decide)) (fun _ => ?_)
    refine lv_iload_n hx hb dX12_done_40 rfl (lv_at hl 1 rfl) ?_
    refine lv_bipush (v := 14) hx hb dX12_done_41 (by decide) ?_
    refine lv_icmp_ne (tgt := 70) hx hb dX12_done_43 (by decide) (fun _ => ?_) (fun c9 => absurd c9 (by decide)) 
    refine lv_iload_n hx hb dX12_done_70 rfl (lv_at hl 1 rfl) ?_
    refine lv_bipush (v := 8) hx hb dX12_done_71 (by decide) ?_
    refine lv_icmp_gt (tgt := 86) hx hb dX12_done_73 (by decide) (fun _ => ?_) (fun c9 => absurd (by decide) c9) 
    refine lv_iload_n hx hb dX12_done_86 rfl (lv_at hl 1 rfl) ?_
    refine lv_bipush (v := 21) hx hb dX12_done_87 (by decide) ?_
    refine lv_icmp_gt (tgt := 102) hx hb dX12_done_89 (by decide) (fun c9 => absurd c9 (by decide)) (fun _ => ?_)
    refine lv_aload_n hx hb dX12_done_92 rfl (lv_at hl 0 rfl) ?_
    refine lv_iload_n hx hb dX12_done_93 rfl (lv_at hl 1 rfl) ?_
    refine lv_iload_n hx hb dX12_done_94 rfl (lv_at hl 2 rfl) ?_
    refine lv_iload_n hx hb dX12_done_95 rfl (lv_at hl 3 rfl) ?_
    refine lv_iload hx hb dX12_done_96 (lv_at hl 4 rfl) ?_
    refine cV_l (C := RX12) (n := 4) (rest := []) hx hb hml hown hg hT (c_X12_boxes_11 l dC dI g ty H.size Y pa kp ks I tl ac wr 0 ρ pl P md Z rz9 u8 a0 b0 c0 (by exact rel) (by exact wf) (by exact pre2) (by exact hcnt) (by exact htl) (by exact pre5) (by rfl) (by exact hq8)) (cv_of hg wM_X12_115 wN_X12_boxes wL_X12_X12_boxes wK_X12_boxes wI_X12 (by decide +kernel) ⟨Nat.le_of_ble_eq_true rfl, Nat.le_of_ble_eq_true rfl⟩) hK hP hD hS hA (va_recv hK hP (ci := 14) (q0 := 0) rfl rfl) rfl hl.1 rfl (Nat.le_of_ble_eq_true rfl) dX12_done_98 ⟨by show 0 + 0 ≤ 96000 - Y.2.2.2.2.2.2.2.1; omega, by show 0 + 0 ≤ 10 * (96000 - Y.2.2.2.2.2.2.2.1) + 2 * (1542237 - Y.2.2.2.2.2.2.2.2.1); omega⟩ (fun r_144 u_145 H locs q_143 hP hD hS => ?_)
    obtain ⟨r'_146, Y'_147, pa'_148, kp'_149, tl'_150, wr'_151, tw'_152, rfl, rfl, f_153⟩ := q_143
    have hP : va_P (dC, dI) vwCl (rW g ty Y'_147 pa'_148 kp'_149 ks I tl'_150 ac wr'_151 tw'_152) H := hP
    have hD : va_D A (rW g ty Y'_147 pa'_148 kp'_149 ks I tl'_150 ac wr'_151 tw'_152) := hD
    refine W.bound (fun gb1 gb2 => ?_)
    have gb1 : H.size ≤ s.heap.size + (0 + 0) := gb1
    have gb2 : hsum H ≤ hsum s.heap + (0 + 0) := gb2
    refine W.widen (k := 96000 - Y.2.2.2.2.2.2.2.1) (n := 10 * (96000 - Y.2.2.2.2.2.2.2.1) + 2 * (1542237 - Y.2.2.2.2.2.2.2.2.1)) (by show 0 + 0 ≤ 96000 - Y.2.2.2.2.2.2.2.1; omega) (by show 0 + 0 ≤ 10 * (96000 - Y.2.2.2.2.2.2.2.1) + 2 * (1542237 - Y.2.2.2.2.2.2.2.2.1); omega) ?_
    refine gr_l (wo := fun u : rY × (Nat → Int32) × (Nat → Int32) × (Nat → Int32) × Int32 × Int32 => rW g ty u.1 u.2.1 u.2.2.1 ks I u.2.2.2.1 ac u.2.2.2.2.1 u.2.2.2.2.2) ((Y'_147, pa'_148, kp'_149, tl'_150, wr'_151, tw'_152)) hx hb hr hlk hS hP hD (by show H.size ≤ sz + (Y'_147.2.2.2.2.2.2.2.1 - Y.2.2.2.2.2.2.2.1); rw [← hsz]; omega) (by show hsum H ≤ tot + (10 * (Y'_147.2.2.2.2.2.2.2.1 - Y.2.2.2.2.2.2.2.1) + 2 * (Y'_147.2.2.2.2.2.2.2.2.1 - Y.2.2.2.2.2.2.2.2.1)); rw [← htot]; omega) ?_ dX12_done_101
    exact ⟨r'_146, Y'_147, pa'_148, kp'_149, tl'_150, wr'_151, tw'_152, rfl, rfl, (by assumption)⟩
  · show _
    have hl : lv_has ls 5 [(0, .ref (g 8)), (1, .int 12), (2, .int a0), (3, .int b0), (4, .int c0)] := hl
    refine lv_aload_n hx hb dX12_done_0 rfl (lv_at hl 0 rfl) ?_
    refine lv_iconst (v := 0) hx hb dX12_done_1 (by decide) ?_
    refine va_put (D := (dC, dI)) (ci := 14) (v := .int 0) (ty := .boolean) (C := RX12) (T := TX12) (N := 21) hx hb hg inG12 tyX12 tyX12_ok nmX12 hown hK hP hD hS 0 rfl rfl 20 (by decide) (hg _ wF_X12_101) (fun _ h9 => h9) rfl (by decide +kernel) rfl rfl (Nat.le_of_ble_eq_true rfl) dX12_done_2 (fun H locs hP hD hS => ?_)
    have hP : va_P (dC, dI) vwCl (rW g ty Y pa kp ks I tl ac wr 0) H := hP
    have hD : va_D A (rW g ty Y pa kp ks I tl ac wr 0) := hD
    refine lv_iload_n hx hb dX12_done_5 rfl (lv_at hl 1 rfl) ?_
    refine lv_if_lt (tgt := 15) hx hb dX12_done_6 (by decide) (fun c9 => absurd c9 (by decide)) (fun _ => ?_)
    refine lv_iload_n hx hb dX12_done_9 rfl (lv_at hl 1 rfl) ?_
    refine lv_bipush (v := 31) hx hb dX12_done_10 (by decide) ?_
    refine lv_icmp_le (tgt := 19) hx hb dX12_done_12 (by decide) (fun _ => ?_) (fun c9 => absurd (by decide) c9) 
    refine lv_iload_n hx hb dX12_done_19 rfl (lv_at hl 1 rfl) ?_
    refine lv_if_eq (tgt := 46) hx hb dX12_done_20 (by decide) (fun c9 => absurd c9 (by decide)) (fun _ => ?_)
    refine lv_iload_n hx hb dX12_done_23 rfl (lv_at hl 1 rfl) ?_
    refine lv_iconst (v := 4) hx hb dX12_done_24 (by decide) ?_
    refine lv_icmp_eq (tgt := 46) hx hb dX12_done_25 (by decide) (fun c9 => absurd c9 (by decide)) (fun _ => ?_)
    refine lv_iload_n hx hb dX12_done_28 rfl (lv_at hl 1 rfl) ?_
    refine lv_bipush (v := 9) hx hb dX12_done_29 (by decide) ?_
    refine lv_icmp_eq (tgt := 46) hx hb dX12_done_31 (by decide) (fun c9 => absurd c9 (by decide)) (fun _ => ?_)
    refine lv_iload_n hx hb dX12_done_34 rfl (lv_at hl 1 rfl) ?_
    refine lv_bipush (v := 13) hx hb dX12_done_35 (by decide) ?_
    refine lv_icmp_eq (tgt := 46) hx hb dX12_done_37 (by decide) (fun c9 => absurd c9 (by decide)) (fun _ => ?_)
    refine lv_iload_n hx hb dX12_done_40 rfl (lv_at hl 1 rfl) ?_
    refine lv_bipush (v := 14) hx hb dX12_done_41 (by decide) ?_
    refine lv_icmp_ne (tgt := 70) hx hb dX12_done_43 (by decide) (fun _ => ?_) (fun c9 => absurd c9 (by decide)) 
    refine lv_iload_n hx hb dX12_done_70 rfl (lv_at hl 1 rfl) ?_
    refine lv_bipush (v := 8) hx hb dX12_done_71 (by decide) ?_
    refine lv_icmp_gt (tgt := 86) hx hb dX12_done_73 (by decide) (fun _ => ?_) (fun c9 => absurd (by decide) c9) 
    refine lv_iload_n hx hb dX12_done_86 rfl (lv_at hl 1 rfl) ?_
    refine lv_bipush (v := 21) hx hb dX12_done_87 (by decide) ?_
    refine lv_icmp_gt (tgt := 102) hx hb dX12_done_89 (by decide) (fun c9 => absurd c9 (by decide)) (fun _ => ?_)
    refine lv_aload_n hx hb dX12_done_92 rfl (lv_at hl 0 rfl) ?_
    refine lv_iload_n hx hb dX12_done_93 rfl (lv_at hl 1 rfl) ?_
    refine lv_iload_n hx hb dX12_done_94 rfl (lv_at hl 2 rfl) ?_
    refine lv_iload_n hx hb dX12_done_95 rfl (lv_at hl 3 rfl) ?_
    refine lv_iload hx hb dX12_done_96 (lv_at hl 4 rfl) ?_
    refine cV_l (C := RX12) (n := 4) (rest := []) hx hb hml hown hg hT (c_X12_boxes_12 l dC dI g ty H.size Y pa kp ks I tl ac wr 0 ρ pl P md Z rz9 u8 a0 b0 c0 (by exact rel) (by exact wf) (by exact pre2) (by exact hcnt) (by exact htl) (by exact pre5) (by rfl) (by exact hq8)) (cv_of hg wM_X12_115 wN_X12_boxes wL_X12_X12_boxes wK_X12_boxes wI_X12 (by decide +kernel) ⟨Nat.le_of_ble_eq_true rfl, Nat.le_of_ble_eq_true rfl⟩) hK hP hD hS hA (va_recv hK hP (ci := 14) (q0 := 0) rfl rfl) rfl hl.1 rfl (Nat.le_of_ble_eq_true rfl) dX12_done_98 ⟨by show 0 + 0 ≤ 96000 - Y.2.2.2.2.2.2.2.1; omega, by show 0 + 0 ≤ 10 * (96000 - Y.2.2.2.2.2.2.2.1) + 2 * (1542237 - Y.2.2.2.2.2.2.2.2.1); omega⟩ (fun r_155 u_156 H locs q_154 hP hD hS => ?_)
    obtain ⟨r'_157, Y'_158, pa'_159, kp'_160, tl'_161, wr'_162, tw'_163, rfl, rfl, f_164⟩ := q_154
    have hP : va_P (dC, dI) vwCl (rW g ty Y'_158 pa'_159 kp'_160 ks I tl'_161 ac wr'_162 tw'_163) H := hP
    have hD : va_D A (rW g ty Y'_158 pa'_159 kp'_160 ks I tl'_161 ac wr'_162 tw'_163) := hD
    refine W.bound (fun gb1 gb2 => ?_)
    have gb1 : H.size ≤ s.heap.size + (0 + 0) := gb1
    have gb2 : hsum H ≤ hsum s.heap + (0 + 0) := gb2
    refine W.widen (k := 96000 - Y.2.2.2.2.2.2.2.1) (n := 10 * (96000 - Y.2.2.2.2.2.2.2.1) + 2 * (1542237 - Y.2.2.2.2.2.2.2.2.1)) (by show 0 + 0 ≤ 96000 - Y.2.2.2.2.2.2.2.1; omega) (by show 0 + 0 ≤ 10 * (96000 - Y.2.2.2.2.2.2.2.1) + 2 * (1542237 - Y.2.2.2.2.2.2.2.2.1); omega) ?_
    refine gr_l (wo := fun u : rY × (Nat → Int32) × (Nat → Int32) × (Nat → Int32) × Int32 × Int32 => rW g ty u.1 u.2.1 u.2.2.1 ks I u.2.2.2.1 ac u.2.2.2.2.1 u.2.2.2.2.2) ((Y'_158, pa'_159, kp'_160, tl'_161, wr'_162, tw'_163)) hx hb hr hlk hS hP hD (by show H.size ≤ sz + (Y'_158.2.2.2.2.2.2.2.1 - Y.2.2.2.2.2.2.2.1); rw [← hsz]; omega) (by show hsum H ≤ tot + (10 * (Y'_158.2.2.2.2.2.2.2.1 - Y.2.2.2.2.2.2.2.1) + 2 * (Y'_158.2.2.2.2.2.2.2.2.1 - Y.2.2.2.2.2.2.2.2.1)); rw [← htot]; omega) ?_ dX12_done_101
    exact ⟨r'_157, Y'_158, pa'_159, kp'_160, tl'_161, wr'_162, tw'_163, rfl, rfl, (by assumption)⟩
  · show _
    have hl : lv_has ls 5 [(0, .ref (g 8)), (1, .int 13), (2, .int a0), (3, .int b0), (4, .int c0)] := hl
    refine lv_aload_n hx hb dX12_done_0 rfl (lv_at hl 0 rfl) ?_
    refine lv_iconst (v := 0) hx hb dX12_done_1 (by decide) ?_
    refine va_put (D := (dC, dI)) (ci := 14) (v := .int 0) (ty := .boolean) (C := RX12) (T := TX12) (N := 21) hx hb hg inG12 tyX12 tyX12_ok nmX12 hown hK hP hD hS 0 rfl rfl 20 (by decide) (hg _ wF_X12_101) (fun _ h9 => h9) rfl (by decide +kernel) rfl rfl (Nat.le_of_ble_eq_true rfl) dX12_done_2 (fun H locs hP hD hS => ?_)
    have hP : va_P (dC, dI) vwCl (rW g ty Y pa kp ks I tl ac wr 0) H := hP
    have hD : va_D A (rW g ty Y pa kp ks I tl ac wr 0) := hD
    refine lv_iload_n hx hb dX12_done_5 rfl (lv_at hl 1 rfl) ?_
    refine lv_if_lt (tgt := 15) hx hb dX12_done_6 (by decide) (fun c9 => absurd c9 (by decide)) (fun _ => ?_)
    refine lv_iload_n hx hb dX12_done_9 rfl (lv_at hl 1 rfl) ?_
    refine lv_bipush (v := 31) hx hb dX12_done_10 (by decide) ?_
    refine lv_icmp_le (tgt := 19) hx hb dX12_done_12 (by decide) (fun _ => ?_) (fun c9 => absurd (by decide) c9) 
    refine lv_iload_n hx hb dX12_done_19 rfl (lv_at hl 1 rfl) ?_
    refine lv_if_eq (tgt := 46) hx hb dX12_done_20 (by decide) (fun c9 => absurd c9 (by decide)) (fun _ => ?_)
    refine lv_iload_n hx hb dX12_done_23 rfl (lv_at hl 1 rfl) ?_
    refine lv_iconst (v := 4) hx hb dX12_done_24 (by decide) ?_
    refine lv_icmp_eq (tgt := 46) hx hb dX12_done_25 (by decide) (fun c9 => absurd c9 (by decide)) (fun _ => ?_)
    refine lv_iload_n hx hb dX12_done_28 rfl (lv_at hl 1 rfl) ?_
    refine lv_bipush (v := 9) hx hb dX12_done_29 (by decide) ?_
    refine lv_icmp_eq (tgt := 46) hx hb dX12_done_31 (by decide) (fun c9 => absurd c9 (by decide)) (fun _ => ?_)
    refine lv_iload_n hx hb dX12_done_34 rfl (lv_at hl 1 rfl) ?_
    refine lv_bipush (v := 13) hx hb dX12_done_35 (by decide) ?_
    refine lv_icmp_eq (tgt := 46) hx hb dX12_done_37 (by decide) (fun _ => ?_) (fun c9 => absurd (by decide) c9) 
    refine lv_aload_n hx hb dX12_done_46 rfl (lv_at hl 0 rfl) ?_
    refine va_get (D := (dC, dI)) (ci := 14) (v := .ref (g 14)) (C := RX12) (T := TX12) (N := 21) hx hb hg inG12 hown hK hP 0 rfl rfl 17 (by decide) (hg _ wF_X12_49) (fun _ h9 => h9) rfl dX12_done_47 ?_
    refine lv_iconst (v := 5) hx hb dX12_done_50 (by decide) ?_
    refine va_iald hx hb hK hP 12 0 rfl rfl (by exact i32_in (by decide) (by decide)) dX12_done_51 ?_
    refine lv_sipush (v := 6000) hx hb dX12_done_52 (by decide) ?_
    refine lv_icmp_lt (tgt := 70) hx hb dX12_done_55 (by decide) (fun c_165 => ?_) (fun c_165 => ?_)
    · show _
      refine lv_iload_n hx hb dX12_done_70 rfl (lv_at hl 1 rfl) ?_
      refine lv_bipush (v := 8) hx hb dX12_done_71 (by decide) ?_
      refine lv_icmp_gt (tgt := 86) hx hb dX12_done_73 (by decide) (fun _ => ?_) (fun c9 => absurd (by decide) c9) 
      refine lv_iload_n hx hb dX12_done_86 rfl (lv_at hl 1 rfl) ?_
      refine lv_bipush (v := 21) hx hb dX12_done_87 (by decide) ?_
      refine lv_icmp_gt (tgt := 102) hx hb dX12_done_89 (by decide) (fun c9 => absurd c9 (by decide)) (fun _ => ?_)
      refine lv_aload_n hx hb dX12_done_92 rfl (lv_at hl 0 rfl) ?_
      refine lv_iload_n hx hb dX12_done_93 rfl (lv_at hl 1 rfl) ?_
      refine lv_iload_n hx hb dX12_done_94 rfl (lv_at hl 2 rfl) ?_
      refine lv_iload_n hx hb dX12_done_95 rfl (lv_at hl 3 rfl) ?_
      refine lv_iload hx hb dX12_done_96 (lv_at hl 4 rfl) ?_
      refine gV_l (C := RX12) (n := 4) (rest := []) hx hb hml hown hg hT (c_X12_boxes_13 l dC dI g ty H.size (hsum H) Y pa kp ks I tl ac wr 0 ρ pl P md Z rz9 u8 a0 b0 c0 (by exact rel) (by exact wf) (by exact pre2) (by exact hcnt) (by exact htl) (by exact pre5) (by rfl) (by exact hq8) (by rw [← htl]; assumption)) (cv_of hg wM_X12_115 wN_X12_boxes wL_X12_X12_boxes wK_X12_boxes wI_X12 (by decide +kernel) ⟨Nat.le_of_ble_eq_true rfl, Nat.le_of_ble_eq_true rfl⟩) hK hP hD hS hA (va_recv hK hP (ci := 14) (q0 := 0) rfl rfl) rfl hl.1 rfl (Nat.le_of_ble_eq_true rfl) dX12_done_98 ⟨by show 0 + (96000 - Y.2.2.2.2.2.2.2.1) ≤ 96000 - Y.2.2.2.2.2.2.2.1; omega, by show 0 + (10 * (96000 - Y.2.2.2.2.2.2.2.1) + 2 * (1542237 - Y.2.2.2.2.2.2.2.2.1)) ≤ 10 * (96000 - Y.2.2.2.2.2.2.2.1) + 2 * (1542237 - Y.2.2.2.2.2.2.2.2.1); omega⟩ (fun r_167 u_168 H locs q_166 hP hD hS => ?_)
      obtain ⟨r'_169, Y'_170, pa'_171, kp'_172, tl'_173, wr'_174, tw'_175, rfl, rfl, f_176⟩ := q_166
      have hP : va_P (dC, dI) vwCl (rW g ty Y'_170 pa'_171 kp'_172 ks I tl'_173 ac wr'_174 tw'_175) H := hP
      have hD : va_D A (rW g ty Y'_170 pa'_171 kp'_172 ks I tl'_173 ac wr'_174 tw'_175) := hD
      have hra := ra_L f_176
      refine W.bound (fun gb1 gb2 => ?_)
      have gb1 : H.size ≤ s.heap.size + (0 + (Y'_170.2.2.2.2.2.2.2.1 - Y.2.2.2.2.2.2.2.1)) := gb1
      have gb2 : hsum H ≤ hsum s.heap + (0 + (10 * (Y'_170.2.2.2.2.2.2.2.1 - Y.2.2.2.2.2.2.2.1) + 2 * (Y'_170.2.2.2.2.2.2.2.2.1 - Y.2.2.2.2.2.2.2.2.1))) := gb2
      refine W.widen (k := 96000 - Y.2.2.2.2.2.2.2.1) (n := 10 * (96000 - Y.2.2.2.2.2.2.2.1) + 2 * (1542237 - Y.2.2.2.2.2.2.2.2.1)) (by show 0 + (Y'_170.2.2.2.2.2.2.2.1 - Y.2.2.2.2.2.2.2.1) ≤ 96000 - Y.2.2.2.2.2.2.2.1; omega) (by show 0 + (10 * (Y'_170.2.2.2.2.2.2.2.1 - Y.2.2.2.2.2.2.2.1) + 2 * (Y'_170.2.2.2.2.2.2.2.2.1 - Y.2.2.2.2.2.2.2.2.1)) ≤ 10 * (96000 - Y.2.2.2.2.2.2.2.1) + 2 * (1542237 - Y.2.2.2.2.2.2.2.2.1); omega) ?_
      refine gr_l (wo := fun u : rY × (Nat → Int32) × (Nat → Int32) × (Nat → Int32) × Int32 × Int32 => rW g ty u.1 u.2.1 u.2.2.1 ks I u.2.2.2.1 ac u.2.2.2.2.1 u.2.2.2.2.2) ((Y'_170, pa'_171, kp'_172, tl'_173, wr'_174, tw'_175)) hx hb hr hlk hS hP hD (by show H.size ≤ sz + (Y'_170.2.2.2.2.2.2.2.1 - Y.2.2.2.2.2.2.2.1); rw [← hsz]; omega) (by show hsum H ≤ tot + (10 * (Y'_170.2.2.2.2.2.2.2.1 - Y.2.2.2.2.2.2.2.1) + 2 * (Y'_170.2.2.2.2.2.2.2.2.1 - Y.2.2.2.2.2.2.2.2.1)); rw [← htot]; omega) ?_ dX12_done_101
      exact ⟨r'_169, Y'_170, pa'_171, kp'_172, tl'_173, wr'_174, tw'_175, rfl, rfl, (by assumption)⟩
    · show _
      have hm6 : ¬ md < 6000 := by rw [← htl]; assumption
      have hu8 := full_makeBox hq8 hm6
      subst hu8
      refine lv_aload_n hx hb dX12_done_58 rfl (lv_at hl 0 rfl) ?_
      refine lv_bipush (v := 6) hx hb dX12_done_59 (by decide) ?_
      refine cV_i (C := RX12) (n := 1) (rest := []) hx hb hml hown hg hT (c_X12_fails l dC dI g ty H.size Y pa kp ks I tl ac wr 0 6 ) (cv_of hg wM_X12_79 wN_X12_fails wL_X12_X12_fails wK_X12_fails wI_X12 (by decide +kernel) ⟨Nat.le_of_ble_eq_true rfl, Nat.le_of_ble_eq_true rfl⟩) hK hP hD hS hA (va_recv hK hP (ci := 14) (q0 := 0) rfl rfl) rfl hl.1 rfl (Nat.le_of_ble_eq_true rfl) dX12_done_61 ⟨by show 0 + 0 ≤ 96000 - Y.2.2.2.2.2.2.2.1; omega, by show 0 + 0 ≤ 10 * (96000 - Y.2.2.2.2.2.2.2.1) + 2 * (1542237 - Y.2.2.2.2.2.2.2.2.1); omega⟩ (fun r_178 u_179 H locs q_177 hP hD hS => ?_)
      obtain ⟨rfl, rfl⟩ := q_177
      have hP : va_P (dC, dI) vwCl (rW g ty Y pa kp ks I tl ac 6 0) H := hP
      have hD : va_D A (rW g ty Y pa kp ks I tl ac 6 0) := hD
      refine lv_pop hx hb dX12_done_64 rfl ?_
      refine lv_aload_n hx hb dX12_done_65 rfl (lv_at hl 0 rfl) ?_
      refine cV_l (C := RX12) (n := 0) (rest := []) hx hb hml hown hg hT (c_X12_no l dC dI g ty H.size Y pa kp ks I tl ac 6 0  ) (cv_of hg wM_X12_107 wN_X12_no wL_X12_X12_no wK_X12_no wI_X12 (by decide +kernel) ⟨Nat.le_of_ble_eq_true rfl, Nat.le_of_ble_eq_true rfl⟩) hK hP hD hS hA (va_recv hK hP (ci := 14) (q0 := 0) rfl rfl) rfl hl.1 rfl (Nat.le_of_ble_eq_true rfl) dX12_done_66 ⟨by show 0 + 0 + 0 ≤ 96000 - Y.2.2.2.2.2.2.2.1; omega, by show 0 + 0 + 0 ≤ 10 * (96000 - Y.2.2.2.2.2.2.2.1) + 2 * (1542237 - Y.2.2.2.2.2.2.2.2.1); omega⟩ (fun r_181 u_182 H locs q_180 hP hD hS => ?_)
      obtain ⟨rfl, rfl⟩ := q_180
      have hP : va_P (dC, dI) vwCl (rW g ty Y pa kp ks I tl ac 6 1) H := hP
      have hD : va_D A (rW g ty Y pa kp ks I tl ac 6 1) := hD
      refine W.bound (fun gb1 gb2 => ?_)
      have gb1 : H.size ≤ s.heap.size + (0 + 0 + 0) := gb1
      have gb2 : hsum H ≤ hsum s.heap + (0 + 0 + 0) := gb2
      refine W.widen (k := 96000 - Y.2.2.2.2.2.2.2.1) (n := 10 * (96000 - Y.2.2.2.2.2.2.2.1) + 2 * (1542237 - Y.2.2.2.2.2.2.2.2.1)) (by show 0 + 0 + 0 ≤ 96000 - Y.2.2.2.2.2.2.2.1; omega) (by show 0 + 0 + 0 ≤ 10 * (96000 - Y.2.2.2.2.2.2.2.1) + 2 * (1542237 - Y.2.2.2.2.2.2.2.2.1); omega) ?_
      refine gr_l (wo := fun u : rY × (Nat → Int32) × (Nat → Int32) × (Nat → Int32) × Int32 × Int32 => rW g ty u.1 u.2.1 u.2.2.1 ks I u.2.2.2.1 ac u.2.2.2.2.1 u.2.2.2.2.2) ((Y, pa, kp, tl, 6, 1)) hx hb hr hlk hS hP hD (by show H.size ≤ sz + (Y.2.2.2.2.2.2.2.1 - Y.2.2.2.2.2.2.2.1); rw [← hsz]; omega) (by show hsum H ≤ tot + (10 * (Y.2.2.2.2.2.2.2.1 - Y.2.2.2.2.2.2.2.1) + 2 * (Y.2.2.2.2.2.2.2.2.1 - Y.2.2.2.2.2.2.2.2.1)); rw [← htot]; omega) ?_ dX12_done_69
      exact ⟨0, Y, pa, kp, tl, 6, 1, rfl, rfl, (by exact ra_f (f := 6) rel hcnt htl (by decide))⟩
  · show _
    have hl : lv_has ls 5 [(0, .ref (g 8)), (1, .int 14), (2, .int a0), (3, .int b0), (4, .int c0)] := hl
    refine lv_aload_n hx hb dX12_done_0 rfl (lv_at hl 0 rfl) ?_
    refine lv_iconst (v := 0) hx hb dX12_done_1 (by decide) ?_
    refine va_put (D := (dC, dI)) (ci := 14) (v := .int 0) (ty := .boolean) (C := RX12) (T := TX12) (N := 21) hx hb hg inG12 tyX12 tyX12_ok nmX12 hown hK hP hD hS 0 rfl rfl 20 (by decide) (hg _ wF_X12_101) (fun _ h9 => h9) rfl (by decide +kernel) rfl rfl (Nat.le_of_ble_eq_true rfl) dX12_done_2 (fun H locs hP hD hS => ?_)
    have hP : va_P (dC, dI) vwCl (rW g ty Y pa kp ks I tl ac wr 0) H := hP
    have hD : va_D A (rW g ty Y pa kp ks I tl ac wr 0) := hD
    refine lv_iload_n hx hb dX12_done_5 rfl (lv_at hl 1 rfl) ?_
    refine lv_if_lt (tgt := 15) hx hb dX12_done_6 (by decide) (fun c9 => absurd c9 (by decide)) (fun _ => ?_)
    refine lv_iload_n hx hb dX12_done_9 rfl (lv_at hl 1 rfl) ?_
    refine lv_bipush (v := 31) hx hb dX12_done_10 (by decide) ?_
    refine lv_icmp_le (tgt := 19) hx hb dX12_done_12 (by decide) (fun _ => ?_) (fun c9 => absurd (by decide) c9) 
    refine lv_iload_n hx hb dX12_done_19 rfl (lv_at hl 1 rfl) ?_
    refine lv_if_eq (tgt := 46) hx hb dX12_done_20 (by decide) (fun c9 => absurd c9 (by decide)) (fun _ => ?_)
    refine lv_iload_n hx hb dX12_done_23 rfl (lv_at hl 1 rfl) ?_
    refine lv_iconst (v := 4) hx hb dX12_done_24 (by decide) ?_
    refine lv_icmp_eq (tgt := 46) hx hb dX12_done_25 (by decide) (fun c9 => absurd c9 (by decide)) (fun _ => ?_)
    refine lv_iload_n hx hb dX12_done_28 rfl (lv_at hl 1 rfl) ?_
    refine lv_bipush (v := 9) hx hb dX12_done_29 (by decide) ?_
    refine lv_icmp_eq (tgt := 46) hx hb dX12_done_31 (by decide) (fun c9 => absurd c9 (by decide)) (fun _ => ?_)
    refine lv_iload_n hx hb dX12_done_34 rfl (lv_at hl 1 rfl) ?_
    refine lv_bipush (v := 13) hx hb dX12_done_35 (by decide) ?_
    refine lv_icmp_eq (tgt := 46) hx hb dX12_done_37 (by decide) (fun c9 => absurd c9 (by decide)) (fun _ => ?_)
    refine lv_iload_n hx hb dX12_done_40 rfl (lv_at hl 1 rfl) ?_
    refine lv_bipush (v := 14) hx hb dX12_done_41 (by decide) ?_
    refine lv_icmp_ne (tgt := 70) hx hb dX12_done_43 (by decide) (fun c9 => absurd (by decide) c9) (fun _ => ?_)
    refine lv_aload_n hx hb dX12_done_46 rfl (lv_at hl 0 rfl) ?_
    refine va_get (D := (dC, dI)) (ci := 14) (v := .ref (g 14)) (C := RX12) (T := TX12) (N := 21) hx hb hg inG12 hown hK hP 0 rfl rfl 17 (by decide) (hg _ wF_X12_49) (fun _ h9 => h9) rfl dX12_done_47 ?_
    refine lv_iconst (v := 5) hx hb dX12_done_50 (by decide) ?_
    refine va_iald hx hb hK hP 12 0 rfl rfl (by exact i32_in (by decide) (by decide)) dX12_done_51 ?_
    refine lv_sipush (v := 6000) hx hb dX12_done_52 (by decide) ?_
    refine lv_icmp_lt (tgt := 70) hx hb dX12_done_55 (by decide) (fun c_183 => ?_) (fun c_183 => ?_)
    · show _
      refine lv_iload_n hx hb dX12_done_70 rfl (lv_at hl 1 rfl) ?_
      refine lv_bipush (v := 8) hx hb dX12_done_71 (by decide) ?_
      refine lv_icmp_gt (tgt := 86) hx hb dX12_done_73 (by decide) (fun _ => ?_) (fun c9 => absurd (by decide) c9) 
      refine lv_iload_n hx hb dX12_done_86 rfl (lv_at hl 1 rfl) ?_
      refine lv_bipush (v := 21) hx hb dX12_done_87 (by decide) ?_
      refine lv_icmp_gt (tgt := 102) hx hb dX12_done_89 (by decide) (fun c9 => absurd c9 (by decide)) (fun _ => ?_)
      refine lv_aload_n hx hb dX12_done_92 rfl (lv_at hl 0 rfl) ?_
      refine lv_iload_n hx hb dX12_done_93 rfl (lv_at hl 1 rfl) ?_
      refine lv_iload_n hx hb dX12_done_94 rfl (lv_at hl 2 rfl) ?_
      refine lv_iload_n hx hb dX12_done_95 rfl (lv_at hl 3 rfl) ?_
      refine lv_iload hx hb dX12_done_96 (lv_at hl 4 rfl) ?_
      refine gV_l (C := RX12) (n := 4) (rest := []) hx hb hml hown hg hT (c_X12_boxes_14 l dC dI g ty H.size (hsum H) Y pa kp ks I tl ac wr 0 ρ pl P md Z rz9 u8 a0 b0 c0 (by exact rel) (by exact wf) (by exact pre2) (by exact hcnt) (by exact htl) (by exact pre5) (by rfl) (by exact hq8) (by rw [← htl]; assumption)) (cv_of hg wM_X12_115 wN_X12_boxes wL_X12_X12_boxes wK_X12_boxes wI_X12 (by decide +kernel) ⟨Nat.le_of_ble_eq_true rfl, Nat.le_of_ble_eq_true rfl⟩) hK hP hD hS hA (va_recv hK hP (ci := 14) (q0 := 0) rfl rfl) rfl hl.1 rfl (Nat.le_of_ble_eq_true rfl) dX12_done_98 ⟨by show 0 + (96000 - Y.2.2.2.2.2.2.2.1) ≤ 96000 - Y.2.2.2.2.2.2.2.1; omega, by show 0 + (10 * (96000 - Y.2.2.2.2.2.2.2.1) + 2 * (1542237 - Y.2.2.2.2.2.2.2.2.1)) ≤ 10 * (96000 - Y.2.2.2.2.2.2.2.1) + 2 * (1542237 - Y.2.2.2.2.2.2.2.2.1); omega⟩ (fun r_185 u_186 H locs q_184 hP hD hS => ?_)
      obtain ⟨r'_187, Y'_188, pa'_189, kp'_190, tl'_191, wr'_192, tw'_193, rfl, rfl, f_194⟩ := q_184
      have hP : va_P (dC, dI) vwCl (rW g ty Y'_188 pa'_189 kp'_190 ks I tl'_191 ac wr'_192 tw'_193) H := hP
      have hD : va_D A (rW g ty Y'_188 pa'_189 kp'_190 ks I tl'_191 ac wr'_192 tw'_193) := hD
      have hra := ra_L f_194
      refine W.bound (fun gb1 gb2 => ?_)
      have gb1 : H.size ≤ s.heap.size + (0 + (Y'_188.2.2.2.2.2.2.2.1 - Y.2.2.2.2.2.2.2.1)) := gb1
      have gb2 : hsum H ≤ hsum s.heap + (0 + (10 * (Y'_188.2.2.2.2.2.2.2.1 - Y.2.2.2.2.2.2.2.1) + 2 * (Y'_188.2.2.2.2.2.2.2.2.1 - Y.2.2.2.2.2.2.2.2.1))) := gb2
      refine W.widen (k := 96000 - Y.2.2.2.2.2.2.2.1) (n := 10 * (96000 - Y.2.2.2.2.2.2.2.1) + 2 * (1542237 - Y.2.2.2.2.2.2.2.2.1)) (by show 0 + (Y'_188.2.2.2.2.2.2.2.1 - Y.2.2.2.2.2.2.2.1) ≤ 96000 - Y.2.2.2.2.2.2.2.1; omega) (by show 0 + (10 * (Y'_188.2.2.2.2.2.2.2.1 - Y.2.2.2.2.2.2.2.1) + 2 * (Y'_188.2.2.2.2.2.2.2.2.1 - Y.2.2.2.2.2.2.2.2.1)) ≤ 10 * (96000 - Y.2.2.2.2.2.2.2.1) + 2 * (1542237 - Y.2.2.2.2.2.2.2.2.1); omega) ?_
      refine gr_l (wo := fun u : rY × (Nat → Int32) × (Nat → Int32) × (Nat → Int32) × Int32 × Int32 => rW g ty u.1 u.2.1 u.2.2.1 ks I u.2.2.2.1 ac u.2.2.2.2.1 u.2.2.2.2.2) ((Y'_188, pa'_189, kp'_190, tl'_191, wr'_192, tw'_193)) hx hb hr hlk hS hP hD (by show H.size ≤ sz + (Y'_188.2.2.2.2.2.2.2.1 - Y.2.2.2.2.2.2.2.1); rw [← hsz]; omega) (by show hsum H ≤ tot + (10 * (Y'_188.2.2.2.2.2.2.2.1 - Y.2.2.2.2.2.2.2.1) + 2 * (Y'_188.2.2.2.2.2.2.2.2.1 - Y.2.2.2.2.2.2.2.2.1)); rw [← htot]; omega) ?_ dX12_done_101
      exact ⟨r'_187, Y'_188, pa'_189, kp'_190, tl'_191, wr'_192, tw'_193, rfl, rfl, (by assumption)⟩
    · show _
      have hm6 : ¬ md < 6000 := by rw [← htl]; assumption
      have hu8 := full_makeLetter hq8 hm6
      subst hu8
      refine lv_aload_n hx hb dX12_done_58 rfl (lv_at hl 0 rfl) ?_
      refine lv_bipush (v := 6) hx hb dX12_done_59 (by decide) ?_
      refine cV_i (C := RX12) (n := 1) (rest := []) hx hb hml hown hg hT (c_X12_fails l dC dI g ty H.size Y pa kp ks I tl ac wr 0 6 ) (cv_of hg wM_X12_79 wN_X12_fails wL_X12_X12_fails wK_X12_fails wI_X12 (by decide +kernel) ⟨Nat.le_of_ble_eq_true rfl, Nat.le_of_ble_eq_true rfl⟩) hK hP hD hS hA (va_recv hK hP (ci := 14) (q0 := 0) rfl rfl) rfl hl.1 rfl (Nat.le_of_ble_eq_true rfl) dX12_done_61 ⟨by show 0 + 0 ≤ 96000 - Y.2.2.2.2.2.2.2.1; omega, by show 0 + 0 ≤ 10 * (96000 - Y.2.2.2.2.2.2.2.1) + 2 * (1542237 - Y.2.2.2.2.2.2.2.2.1); omega⟩ (fun r_196 u_197 H locs q_195 hP hD hS => ?_)
      obtain ⟨rfl, rfl⟩ := q_195
      have hP : va_P (dC, dI) vwCl (rW g ty Y pa kp ks I tl ac 6 0) H := hP
      have hD : va_D A (rW g ty Y pa kp ks I tl ac 6 0) := hD
      refine lv_pop hx hb dX12_done_64 rfl ?_
      refine lv_aload_n hx hb dX12_done_65 rfl (lv_at hl 0 rfl) ?_
      refine cV_l (C := RX12) (n := 0) (rest := []) hx hb hml hown hg hT (c_X12_no l dC dI g ty H.size Y pa kp ks I tl ac 6 0  ) (cv_of hg wM_X12_107 wN_X12_no wL_X12_X12_no wK_X12_no wI_X12 (by decide +kernel) ⟨Nat.le_of_ble_eq_true rfl, Nat.le_of_ble_eq_true rfl⟩) hK hP hD hS hA (va_recv hK hP (ci := 14) (q0 := 0) rfl rfl) rfl hl.1 rfl (Nat.le_of_ble_eq_true rfl) dX12_done_66 ⟨by show 0 + 0 + 0 ≤ 96000 - Y.2.2.2.2.2.2.2.1; omega, by show 0 + 0 + 0 ≤ 10 * (96000 - Y.2.2.2.2.2.2.2.1) + 2 * (1542237 - Y.2.2.2.2.2.2.2.2.1); omega⟩ (fun r_199 u_200 H locs q_198 hP hD hS => ?_)
      obtain ⟨rfl, rfl⟩ := q_198
      have hP : va_P (dC, dI) vwCl (rW g ty Y pa kp ks I tl ac 6 1) H := hP
      have hD : va_D A (rW g ty Y pa kp ks I tl ac 6 1) := hD
      refine W.bound (fun gb1 gb2 => ?_)
      have gb1 : H.size ≤ s.heap.size + (0 + 0 + 0) := gb1
      have gb2 : hsum H ≤ hsum s.heap + (0 + 0 + 0) := gb2
      refine W.widen (k := 96000 - Y.2.2.2.2.2.2.2.1) (n := 10 * (96000 - Y.2.2.2.2.2.2.2.1) + 2 * (1542237 - Y.2.2.2.2.2.2.2.2.1)) (by show 0 + 0 + 0 ≤ 96000 - Y.2.2.2.2.2.2.2.1; omega) (by show 0 + 0 + 0 ≤ 10 * (96000 - Y.2.2.2.2.2.2.2.1) + 2 * (1542237 - Y.2.2.2.2.2.2.2.2.1); omega) ?_
      refine gr_l (wo := fun u : rY × (Nat → Int32) × (Nat → Int32) × (Nat → Int32) × Int32 × Int32 => rW g ty u.1 u.2.1 u.2.2.1 ks I u.2.2.2.1 ac u.2.2.2.2.1 u.2.2.2.2.2) ((Y, pa, kp, tl, 6, 1)) hx hb hr hlk hS hP hD (by show H.size ≤ sz + (Y.2.2.2.2.2.2.2.1 - Y.2.2.2.2.2.2.2.1); rw [← hsz]; omega) (by show hsum H ≤ tot + (10 * (Y.2.2.2.2.2.2.2.1 - Y.2.2.2.2.2.2.2.1) + 2 * (Y.2.2.2.2.2.2.2.2.1 - Y.2.2.2.2.2.2.2.2.1)); rw [← htot]; omega) ?_ dX12_done_69
      exact ⟨0, Y, pa, kp, tl, 6, 1, rfl, rfl, (by exact ra_f (f := 6) rel hcnt htl (by decide))⟩
  · show _
    have hl : lv_has ls 5 [(0, .ref (g 8)), (1, .int 15), (2, .int a0), (3, .int b0), (4, .int c0)] := hl
    refine lv_aload_n hx hb dX12_done_0 rfl (lv_at hl 0 rfl) ?_
    refine lv_iconst (v := 0) hx hb dX12_done_1 (by decide) ?_
    refine va_put (D := (dC, dI)) (ci := 14) (v := .int 0) (ty := .boolean) (C := RX12) (T := TX12) (N := 21) hx hb hg inG12 tyX12 tyX12_ok nmX12 hown hK hP hD hS 0 rfl rfl 20 (by decide) (hg _ wF_X12_101) (fun _ h9 => h9) rfl (by decide +kernel) rfl rfl (Nat.le_of_ble_eq_true rfl) dX12_done_2 (fun H locs hP hD hS => ?_)
    have hP : va_P (dC, dI) vwCl (rW g ty Y pa kp ks I tl ac wr 0) H := hP
    have hD : va_D A (rW g ty Y pa kp ks I tl ac wr 0) := hD
    refine lv_iload_n hx hb dX12_done_5 rfl (lv_at hl 1 rfl) ?_
    refine lv_if_lt (tgt := 15) hx hb dX12_done_6 (by decide) (fun c9 => absurd c9 (by decide)) (fun _ => ?_)
    refine lv_iload_n hx hb dX12_done_9 rfl (lv_at hl 1 rfl) ?_
    refine lv_bipush (v := 31) hx hb dX12_done_10 (by decide) ?_
    refine lv_icmp_le (tgt := 19) hx hb dX12_done_12 (by decide) (fun _ => ?_) (fun c9 => absurd (by decide) c9) 
    refine lv_iload_n hx hb dX12_done_19 rfl (lv_at hl 1 rfl) ?_
    refine lv_if_eq (tgt := 46) hx hb dX12_done_20 (by decide) (fun c9 => absurd c9 (by decide)) (fun _ => ?_)
    refine lv_iload_n hx hb dX12_done_23 rfl (lv_at hl 1 rfl) ?_
    refine lv_iconst (v := 4) hx hb dX12_done_24 (by decide) ?_
    refine lv_icmp_eq (tgt := 46) hx hb dX12_done_25 (by decide) (fun c9 => absurd c9 (by decide)) (fun _ => ?_)
    refine lv_iload_n hx hb dX12_done_28 rfl (lv_at hl 1 rfl) ?_
    refine lv_bipush (v := 9) hx hb dX12_done_29 (by decide) ?_
    refine lv_icmp_eq (tgt := 46) hx hb dX12_done_31 (by decide) (fun c9 => absurd c9 (by decide)) (fun _ => ?_)
    refine lv_iload_n hx hb dX12_done_34 rfl (lv_at hl 1 rfl) ?_
    refine lv_bipush (v := 13) hx hb dX12_done_35 (by decide) ?_
    refine lv_icmp_eq (tgt := 46) hx hb dX12_done_37 (by decide) (fun c9 => absurd c9 (by decide)) (fun _ => ?_)
    refine lv_iload_n hx hb dX12_done_40 rfl (lv_at hl 1 rfl) ?_
    refine lv_bipush (v := 14) hx hb dX12_done_41 (by decide) ?_
    refine lv_icmp_ne (tgt := 70) hx hb dX12_done_43 (by decide) (fun _ => ?_) (fun c9 => absurd c9 (by decide)) 
    refine lv_iload_n hx hb dX12_done_70 rfl (lv_at hl 1 rfl) ?_
    refine lv_bipush (v := 8) hx hb dX12_done_71 (by decide) ?_
    refine lv_icmp_gt (tgt := 86) hx hb dX12_done_73 (by decide) (fun _ => ?_) (fun c9 => absurd (by decide) c9) 
    refine lv_iload_n hx hb dX12_done_86 rfl (lv_at hl 1 rfl) ?_
    refine lv_bipush (v := 21) hx hb dX12_done_87 (by decide) ?_
    refine lv_icmp_gt (tgt := 102) hx hb dX12_done_89 (by decide) (fun c9 => absurd c9 (by decide)) (fun _ => ?_)
    refine lv_aload_n hx hb dX12_done_92 rfl (lv_at hl 0 rfl) ?_
    refine lv_iload_n hx hb dX12_done_93 rfl (lv_at hl 1 rfl) ?_
    refine lv_iload_n hx hb dX12_done_94 rfl (lv_at hl 2 rfl) ?_
    refine lv_iload_n hx hb dX12_done_95 rfl (lv_at hl 3 rfl) ?_
    refine lv_iload hx hb dX12_done_96 (lv_at hl 4 rfl) ?_
    refine cV_l (C := RX12) (n := 4) (rest := []) hx hb hml hown hg hT (c_X12_boxes_15 l dC dI g ty H.size Y pa kp ks I tl ac wr 0 ρ pl P md Z rz9 u8 a0 b0 c0 (by exact rel) (by exact wf) (by exact pre2) (by exact hcnt) (by exact htl) (by exact pre5) (by rfl) (by exact hq8)) (cv_of hg wM_X12_115 wN_X12_boxes wL_X12_X12_boxes wK_X12_boxes wI_X12 (by decide +kernel) ⟨Nat.le_of_ble_eq_true rfl, Nat.le_of_ble_eq_true rfl⟩) hK hP hD hS hA (va_recv hK hP (ci := 14) (q0 := 0) rfl rfl) rfl hl.1 rfl (Nat.le_of_ble_eq_true rfl) dX12_done_98 ⟨by show 0 + 0 ≤ 96000 - Y.2.2.2.2.2.2.2.1; omega, by show 0 + 0 ≤ 10 * (96000 - Y.2.2.2.2.2.2.2.1) + 2 * (1542237 - Y.2.2.2.2.2.2.2.2.1); omega⟩ (fun r_202 u_203 H locs q_201 hP hD hS => ?_)
    obtain ⟨r'_204, Y'_205, pa'_206, kp'_207, tl'_208, wr'_209, tw'_210, rfl, rfl, f_211⟩ := q_201
    have hP : va_P (dC, dI) vwCl (rW g ty Y'_205 pa'_206 kp'_207 ks I tl'_208 ac wr'_209 tw'_210) H := hP
    have hD : va_D A (rW g ty Y'_205 pa'_206 kp'_207 ks I tl'_208 ac wr'_209 tw'_210) := hD
    refine W.bound (fun gb1 gb2 => ?_)
    have gb1 : H.size ≤ s.heap.size + (0 + 0) := gb1
    have gb2 : hsum H ≤ hsum s.heap + (0 + 0) := gb2
    refine W.widen (k := 96000 - Y.2.2.2.2.2.2.2.1) (n := 10 * (96000 - Y.2.2.2.2.2.2.2.1) + 2 * (1542237 - Y.2.2.2.2.2.2.2.2.1)) (by show 0 + 0 ≤ 96000 - Y.2.2.2.2.2.2.2.1; omega) (by show 0 + 0 ≤ 10 * (96000 - Y.2.2.2.2.2.2.2.1) + 2 * (1542237 - Y.2.2.2.2.2.2.2.2.1); omega) ?_
    refine gr_l (wo := fun u : rY × (Nat → Int32) × (Nat → Int32) × (Nat → Int32) × Int32 × Int32 => rW g ty u.1 u.2.1 u.2.2.1 ks I u.2.2.2.1 ac u.2.2.2.2.1 u.2.2.2.2.2) ((Y'_205, pa'_206, kp'_207, tl'_208, wr'_209, tw'_210)) hx hb hr hlk hS hP hD (by show H.size ≤ sz + (Y'_205.2.2.2.2.2.2.2.1 - Y.2.2.2.2.2.2.2.1); rw [← hsz]; omega) (by show hsum H ≤ tot + (10 * (Y'_205.2.2.2.2.2.2.2.1 - Y.2.2.2.2.2.2.2.1) + 2 * (Y'_205.2.2.2.2.2.2.2.2.1 - Y.2.2.2.2.2.2.2.2.1)); rw [← htot]; omega) ?_ dX12_done_101
    exact ⟨r'_204, Y'_205, pa'_206, kp'_207, tl'_208, wr'_209, tw'_210, rfl, rfl, (by assumption)⟩
  · show _
    have hl : lv_has ls 5 [(0, .ref (g 8)), (1, .int 16), (2, .int a0), (3, .int b0), (4, .int c0)] := hl
    refine lv_aload_n hx hb dX12_done_0 rfl (lv_at hl 0 rfl) ?_
    refine lv_iconst (v := 0) hx hb dX12_done_1 (by decide) ?_
    refine va_put (D := (dC, dI)) (ci := 14) (v := .int 0) (ty := .boolean) (C := RX12) (T := TX12) (N := 21) hx hb hg inG12 tyX12 tyX12_ok nmX12 hown hK hP hD hS 0 rfl rfl 20 (by decide) (hg _ wF_X12_101) (fun _ h9 => h9) rfl (by decide +kernel) rfl rfl (Nat.le_of_ble_eq_true rfl) dX12_done_2 (fun H locs hP hD hS => ?_)
    have hP : va_P (dC, dI) vwCl (rW g ty Y pa kp ks I tl ac wr 0) H := hP
    have hD : va_D A (rW g ty Y pa kp ks I tl ac wr 0) := hD
    refine lv_iload_n hx hb dX12_done_5 rfl (lv_at hl 1 rfl) ?_
    refine lv_if_lt (tgt := 15) hx hb dX12_done_6 (by decide) (fun c9 => absurd c9 (by decide)) (fun _ => ?_)
    refine lv_iload_n hx hb dX12_done_9 rfl (lv_at hl 1 rfl) ?_
    refine lv_bipush (v := 31) hx hb dX12_done_10 (by decide) ?_
    refine lv_icmp_le (tgt := 19) hx hb dX12_done_12 (by decide) (fun _ => ?_) (fun c9 => absurd (by decide) c9) 
    refine lv_iload_n hx hb dX12_done_19 rfl (lv_at hl 1 rfl) ?_
    refine lv_if_eq (tgt := 46) hx hb dX12_done_20 (by decide) (fun c9 => absurd c9 (by decide)) (fun _ => ?_)
    refine lv_iload_n hx hb dX12_done_23 rfl (lv_at hl 1 rfl) ?_
    refine lv_iconst (v := 4) hx hb dX12_done_24 (by decide) ?_
    refine lv_icmp_eq (tgt := 46) hx hb dX12_done_25 (by decide) (fun c9 => absurd c9 (by decide)) (fun _ => ?_)
    refine lv_iload_n hx hb dX12_done_28 rfl (lv_at hl 1 rfl) ?_
    refine lv_bipush (v := 9) hx hb dX12_done_29 (by decide) ?_
    refine lv_icmp_eq (tgt := 46) hx hb dX12_done_31 (by decide) (fun c9 => absurd c9 (by decide)) (fun _ => ?_)
    refine lv_iload_n hx hb dX12_done_34 rfl (lv_at hl 1 rfl) ?_
    refine lv_bipush (v := 13) hx hb dX12_done_35 (by decide) ?_
    refine lv_icmp_eq (tgt := 46) hx hb dX12_done_37 (by decide) (fun c9 => absurd c9 (by decide)) (fun _ => ?_)
    refine lv_iload_n hx hb dX12_done_40 rfl (lv_at hl 1 rfl) ?_
    refine lv_bipush (v := 14) hx hb dX12_done_41 (by decide) ?_
    refine lv_icmp_ne (tgt := 70) hx hb dX12_done_43 (by decide) (fun _ => ?_) (fun c9 => absurd c9 (by decide)) 
    refine lv_iload_n hx hb dX12_done_70 rfl (lv_at hl 1 rfl) ?_
    refine lv_bipush (v := 8) hx hb dX12_done_71 (by decide) ?_
    refine lv_icmp_gt (tgt := 86) hx hb dX12_done_73 (by decide) (fun _ => ?_) (fun c9 => absurd (by decide) c9) 
    refine lv_iload_n hx hb dX12_done_86 rfl (lv_at hl 1 rfl) ?_
    refine lv_bipush (v := 21) hx hb dX12_done_87 (by decide) ?_
    refine lv_icmp_gt (tgt := 102) hx hb dX12_done_89 (by decide) (fun c9 => absurd c9 (by decide)) (fun _ => ?_)
    refine lv_aload_n hx hb dX12_done_92 rfl (lv_at hl 0 rfl) ?_
    refine lv_iload_n hx hb dX12_done_93 rfl (lv_at hl 1 rfl) ?_
    refine lv_iload_n hx hb dX12_done_94 rfl (lv_at hl 2 rfl) ?_
    refine lv_iload_n hx hb dX12_done_95 rfl (lv_at hl 3 rfl) ?_
    refine lv_iload hx hb dX12_done_96 (lv_at hl 4 rfl) ?_
    refine cV_l (C := RX12) (n := 4) (rest := []) hx hb hml hown hg hT (c_X12_boxes_16 l dC dI g ty H.size Y pa kp ks I tl ac wr 0 ρ pl P md Z rz9 u8 a0 b0 c0 (by exact rel) (by exact wf) (by exact pre2) (by exact hcnt) (by exact htl) (by exact pre5) (by rfl) (by exact hq8)) (cv_of hg wM_X12_115 wN_X12_boxes wL_X12_X12_boxes wK_X12_boxes wI_X12 (by decide +kernel) ⟨Nat.le_of_ble_eq_true rfl, Nat.le_of_ble_eq_true rfl⟩) hK hP hD hS hA (va_recv hK hP (ci := 14) (q0 := 0) rfl rfl) rfl hl.1 rfl (Nat.le_of_ble_eq_true rfl) dX12_done_98 ⟨by show 0 + 0 ≤ 96000 - Y.2.2.2.2.2.2.2.1; omega, by show 0 + 0 ≤ 10 * (96000 - Y.2.2.2.2.2.2.2.1) + 2 * (1542237 - Y.2.2.2.2.2.2.2.2.1); omega⟩ (fun r_213 u_214 H locs q_212 hP hD hS => ?_)
    obtain ⟨r'_215, Y'_216, pa'_217, kp'_218, tl'_219, wr'_220, tw'_221, rfl, rfl, f_222⟩ := q_212
    have hP : va_P (dC, dI) vwCl (rW g ty Y'_216 pa'_217 kp'_218 ks I tl'_219 ac wr'_220 tw'_221) H := hP
    have hD : va_D A (rW g ty Y'_216 pa'_217 kp'_218 ks I tl'_219 ac wr'_220 tw'_221) := hD
    refine W.bound (fun gb1 gb2 => ?_)
    have gb1 : H.size ≤ s.heap.size + (0 + 0) := gb1
    have gb2 : hsum H ≤ hsum s.heap + (0 + 0) := gb2
    refine W.widen (k := 96000 - Y.2.2.2.2.2.2.2.1) (n := 10 * (96000 - Y.2.2.2.2.2.2.2.1) + 2 * (1542237 - Y.2.2.2.2.2.2.2.2.1)) (by show 0 + 0 ≤ 96000 - Y.2.2.2.2.2.2.2.1; omega) (by show 0 + 0 ≤ 10 * (96000 - Y.2.2.2.2.2.2.2.1) + 2 * (1542237 - Y.2.2.2.2.2.2.2.2.1); omega) ?_
    refine gr_l (wo := fun u : rY × (Nat → Int32) × (Nat → Int32) × (Nat → Int32) × Int32 × Int32 => rW g ty u.1 u.2.1 u.2.2.1 ks I u.2.2.2.1 ac u.2.2.2.2.1 u.2.2.2.2.2) ((Y'_216, pa'_217, kp'_218, tl'_219, wr'_220, tw'_221)) hx hb hr hlk hS hP hD (by show H.size ≤ sz + (Y'_216.2.2.2.2.2.2.2.1 - Y.2.2.2.2.2.2.2.1); rw [← hsz]; omega) (by show hsum H ≤ tot + (10 * (Y'_216.2.2.2.2.2.2.2.1 - Y.2.2.2.2.2.2.2.1) + 2 * (Y'_216.2.2.2.2.2.2.2.2.1 - Y.2.2.2.2.2.2.2.2.1)); rw [← htot]; omega) ?_ dX12_done_101
    exact ⟨r'_215, Y'_216, pa'_217, kp'_218, tl'_219, wr'_220, tw'_221, rfl, rfl, (by assumption)⟩
  · show _
    have hl : lv_has ls 5 [(0, .ref (g 8)), (1, .int 17), (2, .int a0), (3, .int b0), (4, .int c0)] := hl
    refine lv_aload_n hx hb dX12_done_0 rfl (lv_at hl 0 rfl) ?_
    refine lv_iconst (v := 0) hx hb dX12_done_1 (by decide) ?_
    refine va_put (D := (dC, dI)) (ci := 14) (v := .int 0) (ty := .boolean) (C := RX12) (T := TX12) (N := 21) hx hb hg inG12 tyX12 tyX12_ok nmX12 hown hK hP hD hS 0 rfl rfl 20 (by decide) (hg _ wF_X12_101) (fun _ h9 => h9) rfl (by decide +kernel) rfl rfl (Nat.le_of_ble_eq_true rfl) dX12_done_2 (fun H locs hP hD hS => ?_)
    have hP : va_P (dC, dI) vwCl (rW g ty Y pa kp ks I tl ac wr 0) H := hP
    have hD : va_D A (rW g ty Y pa kp ks I tl ac wr 0) := hD
    refine lv_iload_n hx hb dX12_done_5 rfl (lv_at hl 1 rfl) ?_
    refine lv_if_lt (tgt := 15) hx hb dX12_done_6 (by decide) (fun c9 => absurd c9 (by decide)) (fun _ => ?_)
    refine lv_iload_n hx hb dX12_done_9 rfl (lv_at hl 1 rfl) ?_
    refine lv_bipush (v := 31) hx hb dX12_done_10 (by decide) ?_
    refine lv_icmp_le (tgt := 19) hx hb dX12_done_12 (by decide) (fun _ => ?_) (fun c9 => absurd (by decide) c9) 
    refine lv_iload_n hx hb dX12_done_19 rfl (lv_at hl 1 rfl) ?_
    refine lv_if_eq (tgt := 46) hx hb dX12_done_20 (by decide) (fun c9 => absurd c9 (by decide)) (fun _ => ?_)
    refine lv_iload_n hx hb dX12_done_23 rfl (lv_at hl 1 rfl) ?_
    refine lv_iconst (v := 4) hx hb dX12_done_24 (by decide) ?_
    refine lv_icmp_eq (tgt := 46) hx hb dX12_done_25 (by decide) (fun c9 => absurd c9 (by decide)) (fun _ => ?_)
    refine lv_iload_n hx hb dX12_done_28 rfl (lv_at hl 1 rfl) ?_
    refine lv_bipush (v := 9) hx hb dX12_done_29 (by decide) ?_
    refine lv_icmp_eq (tgt := 46) hx hb dX12_done_31 (by decide) (fun c9 => absurd c9 (by decide)) (fun _ => ?_)
    refine lv_iload_n hx hb dX12_done_34 rfl (lv_at hl 1 rfl) ?_
    refine lv_bipush (v := 13) hx hb dX12_done_35 (by decide) ?_
    refine lv_icmp_eq (tgt := 46) hx hb dX12_done_37 (by decide) (fun c9 => absurd c9 (by decide)) (fun _ => ?_)
    refine lv_iload_n hx hb dX12_done_40 rfl (lv_at hl 1 rfl) ?_
    refine lv_bipush (v := 14) hx hb dX12_done_41 (by decide) ?_
    refine lv_icmp_ne (tgt := 70) hx hb dX12_done_43 (by decide) (fun _ => ?_) (fun c9 => absurd c9 (by decide)) 
    refine lv_iload_n hx hb dX12_done_70 rfl (lv_at hl 1 rfl) ?_
    refine lv_bipush (v := 8) hx hb dX12_done_71 (by decide) ?_
    refine lv_icmp_gt (tgt := 86) hx hb dX12_done_73 (by decide) (fun _ => ?_) (fun c9 => absurd (by decide) c9) 
    refine lv_iload_n hx hb dX12_done_86 rfl (lv_at hl 1 rfl) ?_
    refine lv_bipush (v := 21) hx hb dX12_done_87 (by decide) ?_
    refine lv_icmp_gt (tgt := 102) hx hb dX12_done_89 (by decide) (fun c9 => absurd c9 (by decide)) (fun _ => ?_)
    refine lv_aload_n hx hb dX12_done_92 rfl (lv_at hl 0 rfl) ?_
    refine lv_iload_n hx hb dX12_done_93 rfl (lv_at hl 1 rfl) ?_
    refine lv_iload_n hx hb dX12_done_94 rfl (lv_at hl 2 rfl) ?_
    refine lv_iload_n hx hb dX12_done_95 rfl (lv_at hl 3 rfl) ?_
    refine lv_iload hx hb dX12_done_96 (lv_at hl 4 rfl) ?_
    refine cV_l (C := RX12) (n := 4) (rest := []) hx hb hml hown hg hT (c_X12_boxes_17 l dC dI g ty H.size Y pa kp ks I tl ac wr 0 ρ pl P md Z rz9 u8 a0 b0 c0 (by exact rel) (by exact wf) (by exact pre2) (by exact hcnt) (by exact htl) (by exact pre5) (by rfl) (by exact hq8)) (cv_of hg wM_X12_115 wN_X12_boxes wL_X12_X12_boxes wK_X12_boxes wI_X12 (by decide +kernel) ⟨Nat.le_of_ble_eq_true rfl, Nat.le_of_ble_eq_true rfl⟩) hK hP hD hS hA (va_recv hK hP (ci := 14) (q0 := 0) rfl rfl) rfl hl.1 rfl (Nat.le_of_ble_eq_true rfl) dX12_done_98 ⟨by show 0 + 0 ≤ 96000 - Y.2.2.2.2.2.2.2.1; omega, by show 0 + 0 ≤ 10 * (96000 - Y.2.2.2.2.2.2.2.1) + 2 * (1542237 - Y.2.2.2.2.2.2.2.2.1); omega⟩ (fun r_224 u_225 H locs q_223 hP hD hS => ?_)
    obtain ⟨r'_226, Y'_227, pa'_228, kp'_229, tl'_230, wr'_231, tw'_232, rfl, rfl, f_233⟩ := q_223
    have hP : va_P (dC, dI) vwCl (rW g ty Y'_227 pa'_228 kp'_229 ks I tl'_230 ac wr'_231 tw'_232) H := hP
    have hD : va_D A (rW g ty Y'_227 pa'_228 kp'_229 ks I tl'_230 ac wr'_231 tw'_232) := hD
    refine W.bound (fun gb1 gb2 => ?_)
    have gb1 : H.size ≤ s.heap.size + (0 + 0) := gb1
    have gb2 : hsum H ≤ hsum s.heap + (0 + 0) := gb2
    refine W.widen (k := 96000 - Y.2.2.2.2.2.2.2.1) (n := 10 * (96000 - Y.2.2.2.2.2.2.2.1) + 2 * (1542237 - Y.2.2.2.2.2.2.2.2.1)) (by show 0 + 0 ≤ 96000 - Y.2.2.2.2.2.2.2.1; omega) (by show 0 + 0 ≤ 10 * (96000 - Y.2.2.2.2.2.2.2.1) + 2 * (1542237 - Y.2.2.2.2.2.2.2.2.1); omega) ?_
    refine gr_l (wo := fun u : rY × (Nat → Int32) × (Nat → Int32) × (Nat → Int32) × Int32 × Int32 => rW g ty u.1 u.2.1 u.2.2.1 ks I u.2.2.2.1 ac u.2.2.2.2.1 u.2.2.2.2.2) ((Y'_227, pa'_228, kp'_229, tl'_230, wr'_231, tw'_232)) hx hb hr hlk hS hP hD (by show H.size ≤ sz + (Y'_227.2.2.2.2.2.2.2.1 - Y.2.2.2.2.2.2.2.1); rw [← hsz]; omega) (by show hsum H ≤ tot + (10 * (Y'_227.2.2.2.2.2.2.2.1 - Y.2.2.2.2.2.2.2.1) + 2 * (Y'_227.2.2.2.2.2.2.2.2.1 - Y.2.2.2.2.2.2.2.2.1)); rw [← htot]; omega) ?_ dX12_done_101
    exact ⟨r'_226, Y'_227, pa'_228, kp'_229, tl'_230, wr'_231, tw'_232, rfl, rfl, (by assumption)⟩
  · show _
    have hl : lv_has ls 5 [(0, .ref (g 8)), (1, .int 18), (2, .int a0), (3, .int b0), (4, .int c0)] := hl
    refine lv_aload_n hx hb dX12_done_0 rfl (lv_at hl 0 rfl) ?_
    refine lv_iconst (v := 0) hx hb dX12_done_1 (by decide) ?_
    refine va_put (D := (dC, dI)) (ci := 14) (v := .int 0) (ty := .boolean) (C := RX12) (T := TX12) (N := 21) hx hb hg inG12 tyX12 tyX12_ok nmX12 hown hK hP hD hS 0 rfl rfl 20 (by decide) (hg _ wF_X12_101) (fun _ h9 => h9) rfl (by decide +kernel) rfl rfl (Nat.le_of_ble_eq_true rfl) dX12_done_2 (fun H locs hP hD hS => ?_)
    have hP : va_P (dC, dI) vwCl (rW g ty Y pa kp ks I tl ac wr 0) H := hP
    have hD : va_D A (rW g ty Y pa kp ks I tl ac wr 0) := hD
    refine lv_iload_n hx hb dX12_done_5 rfl (lv_at hl 1 rfl) ?_
    refine lv_if_lt (tgt := 15) hx hb dX12_done_6 (by decide) (fun c9 => absurd c9 (by decide)) (fun _ => ?_)
    refine lv_iload_n hx hb dX12_done_9 rfl (lv_at hl 1 rfl) ?_
    refine lv_bipush (v := 31) hx hb dX12_done_10 (by decide) ?_
    refine lv_icmp_le (tgt := 19) hx hb dX12_done_12 (by decide) (fun _ => ?_) (fun c9 => absurd (by decide) c9) 
    refine lv_iload_n hx hb dX12_done_19 rfl (lv_at hl 1 rfl) ?_
    refine lv_if_eq (tgt := 46) hx hb dX12_done_20 (by decide) (fun c9 => absurd c9 (by decide)) (fun _ => ?_)
    refine lv_iload_n hx hb dX12_done_23 rfl (lv_at hl 1 rfl) ?_
    refine lv_iconst (v := 4) hx hb dX12_done_24 (by decide) ?_
    refine lv_icmp_eq (tgt := 46) hx hb dX12_done_25 (by decide) (fun c9 => absurd c9 (by decide)) (fun _ => ?_)
    refine lv_iload_n hx hb dX12_done_28 rfl (lv_at hl 1 rfl) ?_
    refine lv_bipush (v := 9) hx hb dX12_done_29 (by decide) ?_
    refine lv_icmp_eq (tgt := 46) hx hb dX12_done_31 (by decide) (fun c9 => absurd c9 (by decide)) (fun _ => ?_)
    refine lv_iload_n hx hb dX12_done_34 rfl (lv_at hl 1 rfl) ?_
    refine lv_bipush (v := 13) hx hb dX12_done_35 (by decide) ?_
    refine lv_icmp_eq (tgt := 46) hx hb dX12_done_37 (by decide) (fun c9 => absurd c9 (by decide)) (fun _ => ?_)
    refine lv_iload_n hx hb dX12_done_40 rfl (lv_at hl 1 rfl) ?_
    refine lv_bipush (v := 14) hx hb dX12_done_41 (by decide) ?_
    refine lv_icmp_ne (tgt := 70) hx hb dX12_done_43 (by decide) (fun _ => ?_) (fun c9 => absurd c9 (by decide)) 
    refine lv_iload_n hx hb dX12_done_70 rfl (lv_at hl 1 rfl) ?_
    refine lv_bipush (v := 8) hx hb dX12_done_71 (by decide) ?_
    refine lv_icmp_gt (tgt := 86) hx hb dX12_done_73 (by decide) (fun _ => ?_) (fun c9 => absurd (by decide) c9) 
    refine lv_iload_n hx hb dX12_done_86 rfl (lv_at hl 1 rfl) ?_
    refine lv_bipush (v := 21) hx hb dX12_done_87 (by decide) ?_
    refine lv_icmp_gt (tgt := 102) hx hb dX12_done_89 (by decide) (fun c9 => absurd c9 (by decide)) (fun _ => ?_)
    refine lv_aload_n hx hb dX12_done_92 rfl (lv_at hl 0 rfl) ?_
    refine lv_iload_n hx hb dX12_done_93 rfl (lv_at hl 1 rfl) ?_
    refine lv_iload_n hx hb dX12_done_94 rfl (lv_at hl 2 rfl) ?_
    refine lv_iload_n hx hb dX12_done_95 rfl (lv_at hl 3 rfl) ?_
    refine lv_iload hx hb dX12_done_96 (lv_at hl 4 rfl) ?_
    refine cV_l (C := RX12) (n := 4) (rest := []) hx hb hml hown hg hT (c_X12_boxes_18 l dC dI g ty H.size Y pa kp ks I tl ac wr 0 ρ pl P md Z rz9 u8 a0 b0 c0 (by exact rel) (by exact wf) (by exact pre2) (by exact hcnt) (by exact htl) (by exact pre5) (by rfl) (by exact hq8)) (cv_of hg wM_X12_115 wN_X12_boxes wL_X12_X12_boxes wK_X12_boxes wI_X12 (by decide +kernel) ⟨Nat.le_of_ble_eq_true rfl, Nat.le_of_ble_eq_true rfl⟩) hK hP hD hS hA (va_recv hK hP (ci := 14) (q0 := 0) rfl rfl) rfl hl.1 rfl (Nat.le_of_ble_eq_true rfl) dX12_done_98 ⟨by show 0 + 0 ≤ 96000 - Y.2.2.2.2.2.2.2.1; omega, by show 0 + 0 ≤ 10 * (96000 - Y.2.2.2.2.2.2.2.1) + 2 * (1542237 - Y.2.2.2.2.2.2.2.2.1); omega⟩ (fun r_235 u_236 H locs q_234 hP hD hS => ?_)
    obtain ⟨r'_237, Y'_238, pa'_239, kp'_240, tl'_241, wr'_242, tw'_243, rfl, rfl, f_244⟩ := q_234
    have hP : va_P (dC, dI) vwCl (rW g ty Y'_238 pa'_239 kp'_240 ks I tl'_241 ac wr'_242 tw'_243) H := hP
    have hD : va_D A (rW g ty Y'_238 pa'_239 kp'_240 ks I tl'_241 ac wr'_242 tw'_243) := hD
    refine W.bound (fun gb1 gb2 => ?_)
    have gb1 : H.size ≤ s.heap.size + (0 + 0) := gb1
    have gb2 : hsum H ≤ hsum s.heap + (0 + 0) := gb2
    refine W.widen (k := 96000 - Y.2.2.2.2.2.2.2.1) (n := 10 * (96000 - Y.2.2.2.2.2.2.2.1) + 2 * (1542237 - Y.2.2.2.2.2.2.2.2.1)) (by show 0 + 0 ≤ 96000 - Y.2.2.2.2.2.2.2.1; omega) (by show 0 + 0 ≤ 10 * (96000 - Y.2.2.2.2.2.2.2.1) + 2 * (1542237 - Y.2.2.2.2.2.2.2.2.1); omega) ?_
    refine gr_l (wo := fun u : rY × (Nat → Int32) × (Nat → Int32) × (Nat → Int32) × Int32 × Int32 => rW g ty u.1 u.2.1 u.2.2.1 ks I u.2.2.2.1 ac u.2.2.2.2.1 u.2.2.2.2.2) ((Y'_238, pa'_239, kp'_240, tl'_241, wr'_242, tw'_243)) hx hb hr hlk hS hP hD (by show H.size ≤ sz + (Y'_238.2.2.2.2.2.2.2.1 - Y.2.2.2.2.2.2.2.1); rw [← hsz]; omega) (by show hsum H ≤ tot + (10 * (Y'_238.2.2.2.2.2.2.2.1 - Y.2.2.2.2.2.2.2.1) + 2 * (Y'_238.2.2.2.2.2.2.2.2.1 - Y.2.2.2.2.2.2.2.2.1)); rw [← htot]; omega) ?_ dX12_done_101
    exact ⟨r'_237, Y'_238, pa'_239, kp'_240, tl'_241, wr'_242, tw'_243, rfl, rfl, (by assumption)⟩
  · show _
    have hl : lv_has ls 5 [(0, .ref (g 8)), (1, .int 19), (2, .int a0), (3, .int b0), (4, .int c0)] := hl
    refine lv_aload_n hx hb dX12_done_0 rfl (lv_at hl 0 rfl) ?_
    refine lv_iconst (v := 0) hx hb dX12_done_1 (by decide) ?_
    refine va_put (D := (dC, dI)) (ci := 14) (v := .int 0) (ty := .boolean) (C := RX12) (T := TX12) (N := 21) hx hb hg inG12 tyX12 tyX12_ok nmX12 hown hK hP hD hS 0 rfl rfl 20 (by decide) (hg _ wF_X12_101) (fun _ h9 => h9) rfl (by decide +kernel) rfl rfl (Nat.le_of_ble_eq_true rfl) dX12_done_2 (fun H locs hP hD hS => ?_)
    have hP : va_P (dC, dI) vwCl (rW g ty Y pa kp ks I tl ac wr 0) H := hP
    have hD : va_D A (rW g ty Y pa kp ks I tl ac wr 0) := hD
    refine lv_iload_n hx hb dX12_done_5 rfl (lv_at hl 1 rfl) ?_
    refine lv_if_lt (tgt := 15) hx hb dX12_done_6 (by decide) (fun c9 => absurd c9 (by decide)) (fun _ => ?_)
    refine lv_iload_n hx hb dX12_done_9 rfl (lv_at hl 1 rfl) ?_
    refine lv_bipush (v := 31) hx hb dX12_done_10 (by decide) ?_
    refine lv_icmp_le (tgt := 19) hx hb dX12_done_12 (by decide) (fun _ => ?_) (fun c9 => absurd (by decide) c9) 
    refine lv_iload_n hx hb dX12_done_19 rfl (lv_at hl 1 rfl) ?_
    refine lv_if_eq (tgt := 46) hx hb dX12_done_20 (by decide) (fun c9 => absurd c9 (by decide)) (fun _ => ?_)
    refine lv_iload_n hx hb dX12_done_23 rfl (lv_at hl 1 rfl) ?_
    refine lv_iconst (v := 4) hx hb dX12_done_24 (by decide) ?_
    refine lv_icmp_eq (tgt := 46) hx hb dX12_done_25 (by decide) (fun c9 => absurd c9 (by decide)) (fun _ => ?_)
    refine lv_iload_n hx hb dX12_done_28 rfl (lv_at hl 1 rfl) ?_
    refine lv_bipush (v := 9) hx hb dX12_done_29 (by decide) ?_
    refine lv_icmp_eq (tgt := 46) hx hb dX12_done_31 (by decide) (fun c9 => absurd c9 (by decide)) (fun _ => ?_)
    refine lv_iload_n hx hb dX12_done_34 rfl (lv_at hl 1 rfl) ?_
    refine lv_bipush (v := 13) hx hb dX12_done_35 (by decide) ?_
    refine lv_icmp_eq (tgt := 46) hx hb dX12_done_37 (by decide) (fun c9 => absurd c9 (by decide)) (fun _ => ?_)
    refine lv_iload_n hx hb dX12_done_40 rfl (lv_at hl 1 rfl) ?_
    refine lv_bipush (v := 14) hx hb dX12_done_41 (by decide) ?_
    refine lv_icmp_ne (tgt := 70) hx hb dX12_done_43 (by decide) (fun _ => ?_) (fun c9 => absurd c9 (by decide)) 
    refine lv_iload_n hx hb dX12_done_70 rfl (lv_at hl 1 rfl) ?_
    refine lv_bipush (v := 8) hx hb dX12_done_71 (by decide) ?_
    refine lv_icmp_gt (tgt := 86) hx hb dX12_done_73 (by decide) (fun _ => ?_) (fun c9 => absurd (by decide) c9) 
    refine lv_iload_n hx hb dX12_done_86 rfl (lv_at hl 1 rfl) ?_
    refine lv_bipush (v := 21) hx hb dX12_done_87 (by decide) ?_
    refine lv_icmp_gt (tgt := 102) hx hb dX12_done_89 (by decide) (fun c9 => absurd c9 (by decide)) (fun _ => ?_)
    refine lv_aload_n hx hb dX12_done_92 rfl (lv_at hl 0 rfl) ?_
    refine lv_iload_n hx hb dX12_done_93 rfl (lv_at hl 1 rfl) ?_
    refine lv_iload_n hx hb dX12_done_94 rfl (lv_at hl 2 rfl) ?_
    refine lv_iload_n hx hb dX12_done_95 rfl (lv_at hl 3 rfl) ?_
    refine lv_iload hx hb dX12_done_96 (lv_at hl 4 rfl) ?_
    refine cV_l (C := RX12) (n := 4) (rest := []) hx hb hml hown hg hT (c_X12_boxes_19 l dC dI g ty H.size Y pa kp ks I tl ac wr 0 ρ pl P md Z rz9 u8 a0 b0 c0 (by exact rel) (by exact wf) (by exact pre2) (by exact hcnt) (by exact htl) (by exact pre5) (by rfl) (by exact hq8)) (cv_of hg wM_X12_115 wN_X12_boxes wL_X12_X12_boxes wK_X12_boxes wI_X12 (by decide +kernel) ⟨Nat.le_of_ble_eq_true rfl, Nat.le_of_ble_eq_true rfl⟩) hK hP hD hS hA (va_recv hK hP (ci := 14) (q0 := 0) rfl rfl) rfl hl.1 rfl (Nat.le_of_ble_eq_true rfl) dX12_done_98 ⟨by show 0 + 0 ≤ 96000 - Y.2.2.2.2.2.2.2.1; omega, by show 0 + 0 ≤ 10 * (96000 - Y.2.2.2.2.2.2.2.1) + 2 * (1542237 - Y.2.2.2.2.2.2.2.2.1); omega⟩ (fun r_246 u_247 H locs q_245 hP hD hS => ?_)
    obtain ⟨r'_248, Y'_249, pa'_250, kp'_251, tl'_252, wr'_253, tw'_254, rfl, rfl, f_255⟩ := q_245
    have hP : va_P (dC, dI) vwCl (rW g ty Y'_249 pa'_250 kp'_251 ks I tl'_252 ac wr'_253 tw'_254) H := hP
    have hD : va_D A (rW g ty Y'_249 pa'_250 kp'_251 ks I tl'_252 ac wr'_253 tw'_254) := hD
    refine W.bound (fun gb1 gb2 => ?_)
    have gb1 : H.size ≤ s.heap.size + (0 + 0) := gb1
    have gb2 : hsum H ≤ hsum s.heap + (0 + 0) := gb2
    refine W.widen (k := 96000 - Y.2.2.2.2.2.2.2.1) (n := 10 * (96000 - Y.2.2.2.2.2.2.2.1) + 2 * (1542237 - Y.2.2.2.2.2.2.2.2.1)) (by show 0 + 0 ≤ 96000 - Y.2.2.2.2.2.2.2.1; omega) (by show 0 + 0 ≤ 10 * (96000 - Y.2.2.2.2.2.2.2.1) + 2 * (1542237 - Y.2.2.2.2.2.2.2.2.1); omega) ?_
    refine gr_l (wo := fun u : rY × (Nat → Int32) × (Nat → Int32) × (Nat → Int32) × Int32 × Int32 => rW g ty u.1 u.2.1 u.2.2.1 ks I u.2.2.2.1 ac u.2.2.2.2.1 u.2.2.2.2.2) ((Y'_249, pa'_250, kp'_251, tl'_252, wr'_253, tw'_254)) hx hb hr hlk hS hP hD (by show H.size ≤ sz + (Y'_249.2.2.2.2.2.2.2.1 - Y.2.2.2.2.2.2.2.1); rw [← hsz]; omega) (by show hsum H ≤ tot + (10 * (Y'_249.2.2.2.2.2.2.2.1 - Y.2.2.2.2.2.2.2.1) + 2 * (Y'_249.2.2.2.2.2.2.2.2.1 - Y.2.2.2.2.2.2.2.2.1)); rw [← htot]; omega) ?_ dX12_done_101
    exact ⟨r'_248, Y'_249, pa'_250, kp'_251, tl'_252, wr'_253, tw'_254, rfl, rfl, (by assumption)⟩
  · show _
    have hl : lv_has ls 5 [(0, .ref (g 8)), (1, .int 20), (2, .int a0), (3, .int b0), (4, .int c0)] := hl
    refine lv_aload_n hx hb dX12_done_0 rfl (lv_at hl 0 rfl) ?_
    refine lv_iconst (v := 0) hx hb dX12_done_1 (by decide) ?_
    refine va_put (D := (dC, dI)) (ci := 14) (v := .int 0) (ty := .boolean) (C := RX12) (T := TX12) (N := 21) hx hb hg inG12 tyX12 tyX12_ok nmX12 hown hK hP hD hS 0 rfl rfl 20 (by decide) (hg _ wF_X12_101) (fun _ h9 => h9) rfl (by decide +kernel) rfl rfl (Nat.le_of_ble_eq_true rfl) dX12_done_2 (fun H locs hP hD hS => ?_)
    have hP : va_P (dC, dI) vwCl (rW g ty Y pa kp ks I tl ac wr 0) H := hP
    have hD : va_D A (rW g ty Y pa kp ks I tl ac wr 0) := hD
    refine lv_iload_n hx hb dX12_done_5 rfl (lv_at hl 1 rfl) ?_
    refine lv_if_lt (tgt := 15) hx hb dX12_done_6 (by decide) (fun c9 => absurd c9 (by decide)) (fun _ => ?_)
    refine lv_iload_n hx hb dX12_done_9 rfl (lv_at hl 1 rfl) ?_
    refine lv_bipush (v := 31) hx hb dX12_done_10 (by decide) ?_
    refine lv_icmp_le (tgt := 19) hx hb dX12_done_12 (by decide) (fun _ => ?_) (fun c9 => absurd (by decide) c9) 
    refine lv_iload_n hx hb dX12_done_19 rfl (lv_at hl 1 rfl) ?_
    refine lv_if_eq (tgt := 46) hx hb dX12_done_20 (by decide) (fun c9 => absurd c9 (by decide)) (fun _ => ?_)
    refine lv_iload_n hx hb dX12_done_23 rfl (lv_at hl 1 rfl) ?_
    refine lv_iconst (v := 4) hx hb dX12_done_24 (by decide) ?_
    refine lv_icmp_eq (tgt := 46) hx hb dX12_done_25 (by decide) (fun c9 => absurd c9 (by decide)) (fun _ => ?_)
    refine lv_iload_n hx hb dX12_done_28 rfl (lv_at hl 1 rfl) ?_
    refine lv_bipush (v := 9) hx hb dX12_done_29 (by decide) ?_
    refine lv_icmp_eq (tgt := 46) hx hb dX12_done_31 (by decide) (fun c9 => absurd c9 (by decide)) (fun _ => ?_)
    refine lv_iload_n hx hb dX12_done_34 rfl (lv_at hl 1 rfl) ?_
    refine lv_bipush (v := 13) hx hb dX12_done_35 (by decide) ?_
    refine lv_icmp_eq (tgt := 46) hx hb dX12_done_37 (by decide) (fun c9 => absurd c9 (by decide)) (fun _ => ?_)
    refine lv_iload_n hx hb dX12_done_40 rfl (lv_at hl 1 rfl) ?_
    refine lv_bipush (v := 14) hx hb dX12_done_41 (by decide) ?_
    refine lv_icmp_ne (tgt := 70) hx hb dX12_done_43 (by decide) (fun _ => ?_) (fun c9 => absurd c9 (by decide)) 
    refine lv_iload_n hx hb dX12_done_70 rfl (lv_at hl 1 rfl) ?_
    refine lv_bipush (v := 8) hx hb dX12_done_71 (by decide) ?_
    refine lv_icmp_gt (tgt := 86) hx hb dX12_done_73 (by decide) (fun _ => ?_) (fun c9 => absurd (by decide) c9) 
    refine lv_iload_n hx hb dX12_done_86 rfl (lv_at hl 1 rfl) ?_
    refine lv_bipush (v := 21) hx hb dX12_done_87 (by decide) ?_
    refine lv_icmp_gt (tgt := 102) hx hb dX12_done_89 (by decide) (fun c9 => absurd c9 (by decide)) (fun _ => ?_)
    refine lv_aload_n hx hb dX12_done_92 rfl (lv_at hl 0 rfl) ?_
    refine lv_iload_n hx hb dX12_done_93 rfl (lv_at hl 1 rfl) ?_
    refine lv_iload_n hx hb dX12_done_94 rfl (lv_at hl 2 rfl) ?_
    refine lv_iload_n hx hb dX12_done_95 rfl (lv_at hl 3 rfl) ?_
    refine lv_iload hx hb dX12_done_96 (lv_at hl 4 rfl) ?_
    refine cV_l (C := RX12) (n := 4) (rest := []) hx hb hml hown hg hT (c_X12_boxes_20 l dC dI g ty H.size Y pa kp ks I tl ac wr 0 ρ pl P md Z rz9 u8 a0 b0 c0 (by exact rel) (by exact wf) (by exact pre2) (by exact hcnt) (by exact htl) (by exact pre5) (by rfl) (by exact hq8)) (cv_of hg wM_X12_115 wN_X12_boxes wL_X12_X12_boxes wK_X12_boxes wI_X12 (by decide +kernel) ⟨Nat.le_of_ble_eq_true rfl, Nat.le_of_ble_eq_true rfl⟩) hK hP hD hS hA (va_recv hK hP (ci := 14) (q0 := 0) rfl rfl) rfl hl.1 rfl (Nat.le_of_ble_eq_true rfl) dX12_done_98 ⟨by show 0 + 0 ≤ 96000 - Y.2.2.2.2.2.2.2.1; omega, by show 0 + 0 ≤ 10 * (96000 - Y.2.2.2.2.2.2.2.1) + 2 * (1542237 - Y.2.2.2.2.2.2.2.2.1); omega⟩ (fun r_257 u_258 H locs q_256 hP hD hS => ?_)
    obtain ⟨r'_259, Y'_260, pa'_261, kp'_262, tl'_263, wr'_264, tw'_265, rfl, rfl, f_266⟩ := q_256
    have hP : va_P (dC, dI) vwCl (rW g ty Y'_260 pa'_261 kp'_262 ks I tl'_263 ac wr'_264 tw'_265) H := hP
    have hD : va_D A (rW g ty Y'_260 pa'_261 kp'_262 ks I tl'_263 ac wr'_264 tw'_265) := hD
    refine W.bound (fun gb1 gb2 => ?_)
    have gb1 : H.size ≤ s.heap.size + (0 + 0) := gb1
    have gb2 : hsum H ≤ hsum s.heap + (0 + 0) := gb2
    refine W.widen (k := 96000 - Y.2.2.2.2.2.2.2.1) (n := 10 * (96000 - Y.2.2.2.2.2.2.2.1) + 2 * (1542237 - Y.2.2.2.2.2.2.2.2.1)) (by show 0 + 0 ≤ 96000 - Y.2.2.2.2.2.2.2.1; omega) (by show 0 + 0 ≤ 10 * (96000 - Y.2.2.2.2.2.2.2.1) + 2 * (1542237 - Y.2.2.2.2.2.2.2.2.1); omega) ?_
    refine gr_l (wo := fun u : rY × (Nat → Int32) × (Nat → Int32) × (Nat → Int32) × Int32 × Int32 => rW g ty u.1 u.2.1 u.2.2.1 ks I u.2.2.2.1 ac u.2.2.2.2.1 u.2.2.2.2.2) ((Y'_260, pa'_261, kp'_262, tl'_263, wr'_264, tw'_265)) hx hb hr hlk hS hP hD (by show H.size ≤ sz + (Y'_260.2.2.2.2.2.2.2.1 - Y.2.2.2.2.2.2.2.1); rw [← hsz]; omega) (by show hsum H ≤ tot + (10 * (Y'_260.2.2.2.2.2.2.2.1 - Y.2.2.2.2.2.2.2.1) + 2 * (Y'_260.2.2.2.2.2.2.2.2.1 - Y.2.2.2.2.2.2.2.2.1)); rw [← htot]; omega) ?_ dX12_done_101
    exact ⟨r'_259, Y'_260, pa'_261, kp'_262, tl'_263, wr'_264, tw'_265, rfl, rfl, (by assumption)⟩
  · show _
    have hl : lv_has ls 5 [(0, .ref (g 8)), (1, .int 21), (2, .int a0), (3, .int b0), (4, .int c0)] := hl
    refine lv_aload_n hx hb dX12_done_0 rfl (lv_at hl 0 rfl) ?_
    refine lv_iconst (v := 0) hx hb dX12_done_1 (by decide) ?_
    refine va_put (D := (dC, dI)) (ci := 14) (v := .int 0) (ty := .boolean) (C := RX12) (T := TX12) (N := 21) hx hb hg inG12 tyX12 tyX12_ok nmX12 hown hK hP hD hS 0 rfl rfl 20 (by decide) (hg _ wF_X12_101) (fun _ h9 => h9) rfl (by decide +kernel) rfl rfl (Nat.le_of_ble_eq_true rfl) dX12_done_2 (fun H locs hP hD hS => ?_)
    have hP : va_P (dC, dI) vwCl (rW g ty Y pa kp ks I tl ac wr 0) H := hP
    have hD : va_D A (rW g ty Y pa kp ks I tl ac wr 0) := hD
    refine lv_iload_n hx hb dX12_done_5 rfl (lv_at hl 1 rfl) ?_
    refine lv_if_lt (tgt := 15) hx hb dX12_done_6 (by decide) (fun c9 => absurd c9 (by decide)) (fun _ => ?_)
    refine lv_iload_n hx hb dX12_done_9 rfl (lv_at hl 1 rfl) ?_
    refine lv_bipush (v := 31) hx hb dX12_done_10 (by decide) ?_
    refine lv_icmp_le (tgt := 19) hx hb dX12_done_12 (by decide) (fun _ => ?_) (fun c9 => absurd (by decide) c9) 
    refine lv_iload_n hx hb dX12_done_19 rfl (lv_at hl 1 rfl) ?_
    refine lv_if_eq (tgt := 46) hx hb dX12_done_20 (by decide) (fun c9 => absurd c9 (by decide)) (fun _ => ?_)
    refine lv_iload_n hx hb dX12_done_23 rfl (lv_at hl 1 rfl) ?_
    refine lv_iconst (v := 4) hx hb dX12_done_24 (by decide) ?_
    refine lv_icmp_eq (tgt := 46) hx hb dX12_done_25 (by decide) (fun c9 => absurd c9 (by decide)) (fun _ => ?_)
    refine lv_iload_n hx hb dX12_done_28 rfl (lv_at hl 1 rfl) ?_
    refine lv_bipush (v := 9) hx hb dX12_done_29 (by decide) ?_
    refine lv_icmp_eq (tgt := 46) hx hb dX12_done_31 (by decide) (fun c9 => absurd c9 (by decide)) (fun _ => ?_)
    refine lv_iload_n hx hb dX12_done_34 rfl (lv_at hl 1 rfl) ?_
    refine lv_bipush (v := 13) hx hb dX12_done_35 (by decide) ?_
    refine lv_icmp_eq (tgt := 46) hx hb dX12_done_37 (by decide) (fun c9 => absurd c9 (by decide)) (fun _ => ?_)
    refine lv_iload_n hx hb dX12_done_40 rfl (lv_at hl 1 rfl) ?_
    refine lv_bipush (v := 14) hx hb dX12_done_41 (by decide) ?_
    refine lv_icmp_ne (tgt := 70) hx hb dX12_done_43 (by decide) (fun _ => ?_) (fun c9 => absurd c9 (by decide)) 
    refine lv_iload_n hx hb dX12_done_70 rfl (lv_at hl 1 rfl) ?_
    refine lv_bipush (v := 8) hx hb dX12_done_71 (by decide) ?_
    refine lv_icmp_gt (tgt := 86) hx hb dX12_done_73 (by decide) (fun _ => ?_) (fun c9 => absurd (by decide) c9) 
    refine lv_iload_n hx hb dX12_done_86 rfl (lv_at hl 1 rfl) ?_
    refine lv_bipush (v := 21) hx hb dX12_done_87 (by decide) ?_
    refine lv_icmp_gt (tgt := 102) hx hb dX12_done_89 (by decide) (fun c9 => absurd c9 (by decide)) (fun _ => ?_)
    refine lv_aload_n hx hb dX12_done_92 rfl (lv_at hl 0 rfl) ?_
    refine lv_iload_n hx hb dX12_done_93 rfl (lv_at hl 1 rfl) ?_
    refine lv_iload_n hx hb dX12_done_94 rfl (lv_at hl 2 rfl) ?_
    refine lv_iload_n hx hb dX12_done_95 rfl (lv_at hl 3 rfl) ?_
    refine lv_iload hx hb dX12_done_96 (lv_at hl 4 rfl) ?_
    refine cV_l (C := RX12) (n := 4) (rest := []) hx hb hml hown hg hT (c_X12_boxes_21 l dC dI g ty H.size Y pa kp ks I tl ac wr 0 ρ pl P md Z rz9 u8 a0 b0 c0 (by exact rel) (by exact wf) (by exact pre2) (by exact hcnt) (by exact htl) (by exact pre5) (by rfl) (by exact hq8)) (cv_of hg wM_X12_115 wN_X12_boxes wL_X12_X12_boxes wK_X12_boxes wI_X12 (by decide +kernel) ⟨Nat.le_of_ble_eq_true rfl, Nat.le_of_ble_eq_true rfl⟩) hK hP hD hS hA (va_recv hK hP (ci := 14) (q0 := 0) rfl rfl) rfl hl.1 rfl (Nat.le_of_ble_eq_true rfl) dX12_done_98 ⟨by show 0 + 0 ≤ 96000 - Y.2.2.2.2.2.2.2.1; omega, by show 0 + 0 ≤ 10 * (96000 - Y.2.2.2.2.2.2.2.1) + 2 * (1542237 - Y.2.2.2.2.2.2.2.2.1); omega⟩ (fun r_268 u_269 H locs q_267 hP hD hS => ?_)
    obtain ⟨r'_270, Y'_271, pa'_272, kp'_273, tl'_274, wr'_275, tw'_276, rfl, rfl, f_277⟩ := q_267
    have hP : va_P (dC, dI) vwCl (rW g ty Y'_271 pa'_272 kp'_273 ks I tl'_274 ac wr'_275 tw'_276) H := hP
    have hD : va_D A (rW g ty Y'_271 pa'_272 kp'_273 ks I tl'_274 ac wr'_275 tw'_276) := hD
    refine W.bound (fun gb1 gb2 => ?_)
    have gb1 : H.size ≤ s.heap.size + (0 + 0) := gb1
    have gb2 : hsum H ≤ hsum s.heap + (0 + 0) := gb2
    refine W.widen (k := 96000 - Y.2.2.2.2.2.2.2.1) (n := 10 * (96000 - Y.2.2.2.2.2.2.2.1) + 2 * (1542237 - Y.2.2.2.2.2.2.2.2.1)) (by show 0 + 0 ≤ 96000 - Y.2.2.2.2.2.2.2.1; omega) (by show 0 + 0 ≤ 10 * (96000 - Y.2.2.2.2.2.2.2.1) + 2 * (1542237 - Y.2.2.2.2.2.2.2.2.1); omega) ?_
    refine gr_l (wo := fun u : rY × (Nat → Int32) × (Nat → Int32) × (Nat → Int32) × Int32 × Int32 => rW g ty u.1 u.2.1 u.2.2.1 ks I u.2.2.2.1 ac u.2.2.2.2.1 u.2.2.2.2.2) ((Y'_271, pa'_272, kp'_273, tl'_274, wr'_275, tw'_276)) hx hb hr hlk hS hP hD (by show H.size ≤ sz + (Y'_271.2.2.2.2.2.2.2.1 - Y.2.2.2.2.2.2.2.1); rw [← hsz]; omega) (by show hsum H ≤ tot + (10 * (Y'_271.2.2.2.2.2.2.2.1 - Y.2.2.2.2.2.2.2.1) + 2 * (Y'_271.2.2.2.2.2.2.2.2.1 - Y.2.2.2.2.2.2.2.2.1)); rw [← htot]; omega) ?_ dX12_done_101
    exact ⟨r'_270, Y'_271, pa'_272, kp'_273, tl'_274, wr'_275, tw'_276, rfl, rfl, (by assumption)⟩
  · show _
    have hl : lv_has ls 5 [(0, .ref (g 8)), (1, .int 22), (2, .int a0), (3, .int b0), (4, .int c0)] := hl
    refine lv_aload_n hx hb dX12_done_0 rfl (lv_at hl 0 rfl) ?_
    refine lv_iconst (v := 0) hx hb dX12_done_1 (by decide) ?_
    refine va_put (D := (dC, dI)) (ci := 14) (v := .int 0) (ty := .boolean) (C := RX12) (T := TX12) (N := 21) hx hb hg inG12 tyX12 tyX12_ok nmX12 hown hK hP hD hS 0 rfl rfl 20 (by decide) (hg _ wF_X12_101) (fun _ h9 => h9) rfl (by decide +kernel) rfl rfl (Nat.le_of_ble_eq_true rfl) dX12_done_2 (fun H locs hP hD hS => ?_)
    have hP : va_P (dC, dI) vwCl (rW g ty Y pa kp ks I tl ac wr 0) H := hP
    have hD : va_D A (rW g ty Y pa kp ks I tl ac wr 0) := hD
    refine lv_iload_n hx hb dX12_done_5 rfl (lv_at hl 1 rfl) ?_
    refine lv_if_lt (tgt := 15) hx hb dX12_done_6 (by decide) (fun c9 => absurd c9 (by decide)) (fun _ => ?_)
    refine lv_iload_n hx hb dX12_done_9 rfl (lv_at hl 1 rfl) ?_
    refine lv_bipush (v := 31) hx hb dX12_done_10 (by decide) ?_
    refine lv_icmp_le (tgt := 19) hx hb dX12_done_12 (by decide) (fun _ => ?_) (fun c9 => absurd (by decide) c9) 
    refine lv_iload_n hx hb dX12_done_19 rfl (lv_at hl 1 rfl) ?_
    refine lv_if_eq (tgt := 46) hx hb dX12_done_20 (by decide) (fun c9 => absurd c9 (by decide)) (fun _ => ?_)
    refine lv_iload_n hx hb dX12_done_23 rfl (lv_at hl 1 rfl) ?_
    refine lv_iconst (v := 4) hx hb dX12_done_24 (by decide) ?_
    refine lv_icmp_eq (tgt := 46) hx hb dX12_done_25 (by decide) (fun c9 => absurd c9 (by decide)) (fun _ => ?_)
    refine lv_iload_n hx hb dX12_done_28 rfl (lv_at hl 1 rfl) ?_
    refine lv_bipush (v := 9) hx hb dX12_done_29 (by decide) ?_
    refine lv_icmp_eq (tgt := 46) hx hb dX12_done_31 (by decide) (fun c9 => absurd c9 (by decide)) (fun _ => ?_)
    refine lv_iload_n hx hb dX12_done_34 rfl (lv_at hl 1 rfl) ?_
    refine lv_bipush (v := 13) hx hb dX12_done_35 (by decide) ?_
    refine lv_icmp_eq (tgt := 46) hx hb dX12_done_37 (by decide) (fun c9 => absurd c9 (by decide)) (fun _ => ?_)
    refine lv_iload_n hx hb dX12_done_40 rfl (lv_at hl 1 rfl) ?_
    refine lv_bipush (v := 14) hx hb dX12_done_41 (by decide) ?_
    refine lv_icmp_ne (tgt := 70) hx hb dX12_done_43 (by decide) (fun _ => ?_) (fun c9 => absurd c9 (by decide)) 
    refine lv_iload_n hx hb dX12_done_70 rfl (lv_at hl 1 rfl) ?_
    refine lv_bipush (v := 8) hx hb dX12_done_71 (by decide) ?_
    refine lv_icmp_gt (tgt := 86) hx hb dX12_done_73 (by decide) (fun _ => ?_) (fun c9 => absurd (by decide) c9) 
    refine lv_iload_n hx hb dX12_done_86 rfl (lv_at hl 1 rfl) ?_
    refine lv_bipush (v := 21) hx hb dX12_done_87 (by decide) ?_
    refine lv_icmp_gt (tgt := 102) hx hb dX12_done_89 (by decide) (fun _ => ?_) (fun c9 => absurd (by decide) c9) 
    refine lv_iload_n hx hb dX12_done_102 rfl (lv_at hl 1 rfl) ?_
    refine lv_bipush (v := 25) hx hb dX12_done_103 (by decide) ?_
    refine lv_icmp_gt (tgt := 115) hx hb dX12_done_105 (by decide) (fun c9 => absurd c9 (by decide)) (fun _ => ?_)
    refine lv_aload_n hx hb dX12_done_108 rfl (lv_at hl 0 rfl) ?_
    refine lv_iload_n hx hb dX12_done_109 rfl (lv_at hl 1 rfl) ?_
    refine lv_iload_n hx hb dX12_done_110 rfl (lv_at hl 3 rfl) ?_
    refine cV_l (C := RX12) (n := 2) (rest := []) hx hb hml hown hg hT (c_X12_divides_22 l dC dI g ty H.size Y pa kp ks I tl ac wr 0 ρ pl P md Z rz9 u8 b0 (by exact rel) (by exact wf) (by exact pre2) (by exact hcnt) (by exact htl) (by exact pre5) (by rfl) (by exact hq8)) (cv_of hg wM_X12_118 wN_X12_divides wL_X12_X12_divides wK_X12_divides wI_X12 (by decide +kernel) ⟨Nat.le_of_ble_eq_true rfl, Nat.le_of_ble_eq_true rfl⟩) hK hP hD hS hA (va_recv hK hP (ci := 14) (q0 := 0) rfl rfl) rfl hl.1 rfl (Nat.le_of_ble_eq_true rfl) dX12_done_111 ⟨by show 0 + 0 ≤ 96000 - Y.2.2.2.2.2.2.2.1; omega, by show 0 + 0 ≤ 10 * (96000 - Y.2.2.2.2.2.2.2.1) + 2 * (1542237 - Y.2.2.2.2.2.2.2.2.1); omega⟩ (fun r_279 u_280 H locs q_278 hP hD hS => ?_)
    obtain ⟨r'_281, Y'_282, pa'_283, kp'_284, tl'_285, wr'_286, tw'_287, rfl, rfl, f_288⟩ := q_278
    have hP : va_P (dC, dI) vwCl (rW g ty Y'_282 pa'_283 kp'_284 ks I tl'_285 ac wr'_286 tw'_287) H := hP
    have hD : va_D A (rW g ty Y'_282 pa'_283 kp'_284 ks I tl'_285 ac wr'_286 tw'_287) := hD
    refine W.bound (fun gb1 gb2 => ?_)
    have gb1 : H.size ≤ s.heap.size + (0 + 0) := gb1
    have gb2 : hsum H ≤ hsum s.heap + (0 + 0) := gb2
    refine W.widen (k := 96000 - Y.2.2.2.2.2.2.2.1) (n := 10 * (96000 - Y.2.2.2.2.2.2.2.1) + 2 * (1542237 - Y.2.2.2.2.2.2.2.2.1)) (by show 0 + 0 ≤ 96000 - Y.2.2.2.2.2.2.2.1; omega) (by show 0 + 0 ≤ 10 * (96000 - Y.2.2.2.2.2.2.2.1) + 2 * (1542237 - Y.2.2.2.2.2.2.2.2.1); omega) ?_
    refine gr_l (wo := fun u : rY × (Nat → Int32) × (Nat → Int32) × (Nat → Int32) × Int32 × Int32 => rW g ty u.1 u.2.1 u.2.2.1 ks I u.2.2.2.1 ac u.2.2.2.2.1 u.2.2.2.2.2) ((Y'_282, pa'_283, kp'_284, tl'_285, wr'_286, tw'_287)) hx hb hr hlk hS hP hD (by show H.size ≤ sz + (Y'_282.2.2.2.2.2.2.2.1 - Y.2.2.2.2.2.2.2.1); rw [← hsz]; omega) (by show hsum H ≤ tot + (10 * (Y'_282.2.2.2.2.2.2.2.1 - Y.2.2.2.2.2.2.2.1) + 2 * (Y'_282.2.2.2.2.2.2.2.2.1 - Y.2.2.2.2.2.2.2.2.1)); rw [← htot]; omega) ?_ dX12_done_114
    exact ⟨r'_281, Y'_282, pa'_283, kp'_284, tl'_285, wr'_286, tw'_287, rfl, rfl, (by assumption)⟩
  · show _
    have hl : lv_has ls 5 [(0, .ref (g 8)), (1, .int 23), (2, .int a0), (3, .int b0), (4, .int c0)] := hl
    refine lv_aload_n hx hb dX12_done_0 rfl (lv_at hl 0 rfl) ?_
    refine lv_iconst (v := 0) hx hb dX12_done_1 (by decide) ?_
    refine va_put (D := (dC, dI)) (ci := 14) (v := .int 0) (ty := .boolean) (C := RX12) (T := TX12) (N := 21) hx hb hg inG12 tyX12 tyX12_ok nmX12 hown hK hP hD hS 0 rfl rfl 20 (by decide) (hg _ wF_X12_101) (fun _ h9 => h9) rfl (by decide +kernel) rfl rfl (Nat.le_of_ble_eq_true rfl) dX12_done_2 (fun H locs hP hD hS => ?_)
    have hP : va_P (dC, dI) vwCl (rW g ty Y pa kp ks I tl ac wr 0) H := hP
    have hD : va_D A (rW g ty Y pa kp ks I tl ac wr 0) := hD
    refine lv_iload_n hx hb dX12_done_5 rfl (lv_at hl 1 rfl) ?_
    refine lv_if_lt (tgt := 15) hx hb dX12_done_6 (by decide) (fun c9 => absurd c9 (by decide)) (fun _ => ?_)
    refine lv_iload_n hx hb dX12_done_9 rfl (lv_at hl 1 rfl) ?_
    refine lv_bipush (v := 31) hx hb dX12_done_10 (by decide) ?_
    refine lv_icmp_le (tgt := 19) hx hb dX12_done_12 (by decide) (fun _ => ?_) (fun c9 => absurd (by decide) c9) 
    refine lv_iload_n hx hb dX12_done_19 rfl (lv_at hl 1 rfl) ?_
    refine lv_if_eq (tgt := 46) hx hb dX12_done_20 (by decide) (fun c9 => absurd c9 (by decide)) (fun _ => ?_)
    refine lv_iload_n hx hb dX12_done_23 rfl (lv_at hl 1 rfl) ?_
    refine lv_iconst (v := 4) hx hb dX12_done_24 (by decide) ?_
    refine lv_icmp_eq (tgt := 46) hx hb dX12_done_25 (by decide) (fun c9 => absurd c9 (by decide)) (fun _ => ?_)
    refine lv_iload_n hx hb dX12_done_28 rfl (lv_at hl 1 rfl) ?_
    refine lv_bipush (v := 9) hx hb dX12_done_29 (by decide) ?_
    refine lv_icmp_eq (tgt := 46) hx hb dX12_done_31 (by decide) (fun c9 => absurd c9 (by decide)) (fun _ => ?_)
    refine lv_iload_n hx hb dX12_done_34 rfl (lv_at hl 1 rfl) ?_
    refine lv_bipush (v := 13) hx hb dX12_done_35 (by decide) ?_
    refine lv_icmp_eq (tgt := 46) hx hb dX12_done_37 (by decide) (fun c9 => absurd c9 (by decide)) (fun _ => ?_)
    refine lv_iload_n hx hb dX12_done_40 rfl (lv_at hl 1 rfl) ?_
    refine lv_bipush (v := 14) hx hb dX12_done_41 (by decide) ?_
    refine lv_icmp_ne (tgt := 70) hx hb dX12_done_43 (by decide) (fun _ => ?_) (fun c9 => absurd c9 (by decide)) 
    refine lv_iload_n hx hb dX12_done_70 rfl (lv_at hl 1 rfl) ?_
    refine lv_bipush (v := 8) hx hb dX12_done_71 (by decide) ?_
    refine lv_icmp_gt (tgt := 86) hx hb dX12_done_73 (by decide) (fun _ => ?_) (fun c9 => absurd (by decide) c9) 
    refine lv_iload_n hx hb dX12_done_86 rfl (lv_at hl 1 rfl) ?_
    refine lv_bipush (v := 21) hx hb dX12_done_87 (by decide) ?_
    refine lv_icmp_gt (tgt := 102) hx hb dX12_done_89 (by decide) (fun _ => ?_) (fun c9 => absurd (by decide) c9) 
    refine lv_iload_n hx hb dX12_done_102 rfl (lv_at hl 1 rfl) ?_
    refine lv_bipush (v := 25) hx hb dX12_done_103 (by decide) ?_
    refine lv_icmp_gt (tgt := 115) hx hb dX12_done_105 (by decide) (fun c9 => absurd c9 (by decide)) (fun _ => ?_)
    refine lv_aload_n hx hb dX12_done_108 rfl (lv_at hl 0 rfl) ?_
    refine lv_iload_n hx hb dX12_done_109 rfl (lv_at hl 1 rfl) ?_
    refine lv_iload_n hx hb dX12_done_110 rfl (lv_at hl 3 rfl) ?_
    refine cV_l (C := RX12) (n := 2) (rest := []) hx hb hml hown hg hT (c_X12_divides_23 l dC dI g ty H.size Y pa kp ks I tl ac wr 0 ρ pl P md Z rz9 u8 b0 (by exact rel) (by exact wf) (by exact pre2) (by exact hcnt) (by exact htl) (by exact pre5) (by rfl) (by exact hq8)) (cv_of hg wM_X12_118 wN_X12_divides wL_X12_X12_divides wK_X12_divides wI_X12 (by decide +kernel) ⟨Nat.le_of_ble_eq_true rfl, Nat.le_of_ble_eq_true rfl⟩) hK hP hD hS hA (va_recv hK hP (ci := 14) (q0 := 0) rfl rfl) rfl hl.1 rfl (Nat.le_of_ble_eq_true rfl) dX12_done_111 ⟨by show 0 + 0 ≤ 96000 - Y.2.2.2.2.2.2.2.1; omega, by show 0 + 0 ≤ 10 * (96000 - Y.2.2.2.2.2.2.2.1) + 2 * (1542237 - Y.2.2.2.2.2.2.2.2.1); omega⟩ (fun r_290 u_291 H locs q_289 hP hD hS => ?_)
    obtain ⟨r'_292, Y'_293, pa'_294, kp'_295, tl'_296, wr'_297, tw'_298, rfl, rfl, f_299⟩ := q_289
    have hP : va_P (dC, dI) vwCl (rW g ty Y'_293 pa'_294 kp'_295 ks I tl'_296 ac wr'_297 tw'_298) H := hP
    have hD : va_D A (rW g ty Y'_293 pa'_294 kp'_295 ks I tl'_296 ac wr'_297 tw'_298) := hD
    refine W.bound (fun gb1 gb2 => ?_)
    have gb1 : H.size ≤ s.heap.size + (0 + 0) := gb1
    have gb2 : hsum H ≤ hsum s.heap + (0 + 0) := gb2
    refine W.widen (k := 96000 - Y.2.2.2.2.2.2.2.1) (n := 10 * (96000 - Y.2.2.2.2.2.2.2.1) + 2 * (1542237 - Y.2.2.2.2.2.2.2.2.1)) (by show 0 + 0 ≤ 96000 - Y.2.2.2.2.2.2.2.1; omega) (by show 0 + 0 ≤ 10 * (96000 - Y.2.2.2.2.2.2.2.1) + 2 * (1542237 - Y.2.2.2.2.2.2.2.2.1); omega) ?_
    refine gr_l (wo := fun u : rY × (Nat → Int32) × (Nat → Int32) × (Nat → Int32) × Int32 × Int32 => rW g ty u.1 u.2.1 u.2.2.1 ks I u.2.2.2.1 ac u.2.2.2.2.1 u.2.2.2.2.2) ((Y'_293, pa'_294, kp'_295, tl'_296, wr'_297, tw'_298)) hx hb hr hlk hS hP hD (by show H.size ≤ sz + (Y'_293.2.2.2.2.2.2.2.1 - Y.2.2.2.2.2.2.2.1); rw [← hsz]; omega) (by show hsum H ≤ tot + (10 * (Y'_293.2.2.2.2.2.2.2.1 - Y.2.2.2.2.2.2.2.1) + 2 * (Y'_293.2.2.2.2.2.2.2.2.1 - Y.2.2.2.2.2.2.2.2.1)); rw [← htot]; omega) ?_ dX12_done_114
    exact ⟨r'_292, Y'_293, pa'_294, kp'_295, tl'_296, wr'_297, tw'_298, rfl, rfl, (by assumption)⟩
  · show _
    have hl : lv_has ls 5 [(0, .ref (g 8)), (1, .int 24), (2, .int a0), (3, .int b0), (4, .int c0)] := hl
    refine lv_aload_n hx hb dX12_done_0 rfl (lv_at hl 0 rfl) ?_
    refine lv_iconst (v := 0) hx hb dX12_done_1 (by decide) ?_
    refine va_put (D := (dC, dI)) (ci := 14) (v := .int 0) (ty := .boolean) (C := RX12) (T := TX12) (N := 21) hx hb hg inG12 tyX12 tyX12_ok nmX12 hown hK hP hD hS 0 rfl rfl 20 (by decide) (hg _ wF_X12_101) (fun _ h9 => h9) rfl (by decide +kernel) rfl rfl (Nat.le_of_ble_eq_true rfl) dX12_done_2 (fun H locs hP hD hS => ?_)
    have hP : va_P (dC, dI) vwCl (rW g ty Y pa kp ks I tl ac wr 0) H := hP
    have hD : va_D A (rW g ty Y pa kp ks I tl ac wr 0) := hD
    refine lv_iload_n hx hb dX12_done_5 rfl (lv_at hl 1 rfl) ?_
    refine lv_if_lt (tgt := 15) hx hb dX12_done_6 (by decide) (fun c9 => absurd c9 (by decide)) (fun _ => ?_)
    refine lv_iload_n hx hb dX12_done_9 rfl (lv_at hl 1 rfl) ?_
    refine lv_bipush (v := 31) hx hb dX12_done_10 (by decide) ?_
    refine lv_icmp_le (tgt := 19) hx hb dX12_done_12 (by decide) (fun _ => ?_) (fun c9 => absurd (by decide) c9) 
    refine lv_iload_n hx hb dX12_done_19 rfl (lv_at hl 1 rfl) ?_
    refine lv_if_eq (tgt := 46) hx hb dX12_done_20 (by decide) (fun c9 => absurd c9 (by decide)) (fun _ => ?_)
    refine lv_iload_n hx hb dX12_done_23 rfl (lv_at hl 1 rfl) ?_
    refine lv_iconst (v := 4) hx hb dX12_done_24 (by decide) ?_
    refine lv_icmp_eq (tgt := 46) hx hb dX12_done_25 (by decide) (fun c9 => absurd c9 (by decide)) (fun _ => ?_)
    refine lv_iload_n hx hb dX12_done_28 rfl (lv_at hl 1 rfl) ?_
    refine lv_bipush (v := 9) hx hb dX12_done_29 (by decide) ?_
    refine lv_icmp_eq (tgt := 46) hx hb dX12_done_31 (by decide) (fun c9 => absurd c9 (by decide)) (fun _ => ?_)
    refine lv_iload_n hx hb dX12_done_34 rfl (lv_at hl 1 rfl) ?_
    refine lv_bipush (v := 13) hx hb dX12_done_35 (by decide) ?_
    refine lv_icmp_eq (tgt := 46) hx hb dX12_done_37 (by decide) (fun c9 => absurd c9 (by decide)) (fun _ => ?_)
    refine lv_iload_n hx hb dX12_done_40 rfl (lv_at hl 1 rfl) ?_
    refine lv_bipush (v := 14) hx hb dX12_done_41 (by decide) ?_
    refine lv_icmp_ne (tgt := 70) hx hb dX12_done_43 (by decide) (fun _ => ?_) (fun c9 => absurd c9 (by decide)) 
    refine lv_iload_n hx hb dX12_done_70 rfl (lv_at hl 1 rfl) ?_
    refine lv_bipush (v := 8) hx hb dX12_done_71 (by decide) ?_
    refine lv_icmp_gt (tgt := 86) hx hb dX12_done_73 (by decide) (fun _ => ?_) (fun c9 => absurd (by decide) c9) 
    refine lv_iload_n hx hb dX12_done_86 rfl (lv_at hl 1 rfl) ?_
    refine lv_bipush (v := 21) hx hb dX12_done_87 (by decide) ?_
    refine lv_icmp_gt (tgt := 102) hx hb dX12_done_89 (by decide) (fun _ => ?_) (fun c9 => absurd (by decide) c9) 
    refine lv_iload_n hx hb dX12_done_102 rfl (lv_at hl 1 rfl) ?_
    refine lv_bipush (v := 25) hx hb dX12_done_103 (by decide) ?_
    refine lv_icmp_gt (tgt := 115) hx hb dX12_done_105 (by decide) (fun c9 => absurd c9 (by decide)) (fun _ => ?_)
    refine lv_aload_n hx hb dX12_done_108 rfl (lv_at hl 0 rfl) ?_
    refine lv_iload_n hx hb dX12_done_109 rfl (lv_at hl 1 rfl) ?_
    refine lv_iload_n hx hb dX12_done_110 rfl (lv_at hl 3 rfl) ?_
    refine cV_l (C := RX12) (n := 2) (rest := []) hx hb hml hown hg hT (c_X12_divides_24 l dC dI g ty H.size Y pa kp ks I tl ac wr 0 ρ pl P md Z rz9 u8 b0 (by exact rel) (by exact wf) (by exact pre2) (by exact hcnt) (by exact htl) (by exact pre5) (by rfl) (by exact hq8)) (cv_of hg wM_X12_118 wN_X12_divides wL_X12_X12_divides wK_X12_divides wI_X12 (by decide +kernel) ⟨Nat.le_of_ble_eq_true rfl, Nat.le_of_ble_eq_true rfl⟩) hK hP hD hS hA (va_recv hK hP (ci := 14) (q0 := 0) rfl rfl) rfl hl.1 rfl (Nat.le_of_ble_eq_true rfl) dX12_done_111 ⟨by show 0 + 0 ≤ 96000 - Y.2.2.2.2.2.2.2.1; omega, by show 0 + 0 ≤ 10 * (96000 - Y.2.2.2.2.2.2.2.1) + 2 * (1542237 - Y.2.2.2.2.2.2.2.2.1); omega⟩ (fun r_301 u_302 H locs q_300 hP hD hS => ?_)
    obtain ⟨r'_303, Y'_304, pa'_305, kp'_306, tl'_307, wr'_308, tw'_309, rfl, rfl, f_310⟩ := q_300
    have hP : va_P (dC, dI) vwCl (rW g ty Y'_304 pa'_305 kp'_306 ks I tl'_307 ac wr'_308 tw'_309) H := hP
    have hD : va_D A (rW g ty Y'_304 pa'_305 kp'_306 ks I tl'_307 ac wr'_308 tw'_309) := hD
    refine W.bound (fun gb1 gb2 => ?_)
    have gb1 : H.size ≤ s.heap.size + (0 + 0) := gb1
    have gb2 : hsum H ≤ hsum s.heap + (0 + 0) := gb2
    refine W.widen (k := 96000 - Y.2.2.2.2.2.2.2.1) (n := 10 * (96000 - Y.2.2.2.2.2.2.2.1) + 2 * (1542237 - Y.2.2.2.2.2.2.2.2.1)) (by show 0 + 0 ≤ 96000 - Y.2.2.2.2.2.2.2.1; omega) (by show 0 + 0 ≤ 10 * (96000 - Y.2.2.2.2.2.2.2.1) + 2 * (1542237 - Y.2.2.2.2.2.2.2.2.1); omega) ?_
    refine gr_l (wo := fun u : rY × (Nat → Int32) × (Nat → Int32) × (Nat → Int32) × Int32 × Int32 => rW g ty u.1 u.2.1 u.2.2.1 ks I u.2.2.2.1 ac u.2.2.2.2.1 u.2.2.2.2.2) ((Y'_304, pa'_305, kp'_306, tl'_307, wr'_308, tw'_309)) hx hb hr hlk hS hP hD (by show H.size ≤ sz + (Y'_304.2.2.2.2.2.2.2.1 - Y.2.2.2.2.2.2.2.1); rw [← hsz]; omega) (by show hsum H ≤ tot + (10 * (Y'_304.2.2.2.2.2.2.2.1 - Y.2.2.2.2.2.2.2.1) + 2 * (Y'_304.2.2.2.2.2.2.2.2.1 - Y.2.2.2.2.2.2.2.2.1)); rw [← htot]; omega) ?_ dX12_done_114
    exact ⟨r'_303, Y'_304, pa'_305, kp'_306, tl'_307, wr'_308, tw'_309, rfl, rfl, (by assumption)⟩
  · show _
    have hl : lv_has ls 5 [(0, .ref (g 8)), (1, .int 25), (2, .int a0), (3, .int b0), (4, .int c0)] := hl
    refine lv_aload_n hx hb dX12_done_0 rfl (lv_at hl 0 rfl) ?_
    refine lv_iconst (v := 0) hx hb dX12_done_1 (by decide) ?_
    refine va_put (D := (dC, dI)) (ci := 14) (v := .int 0) (ty := .boolean) (C := RX12) (T := TX12) (N := 21) hx hb hg inG12 tyX12 tyX12_ok nmX12 hown hK hP hD hS 0 rfl rfl 20 (by decide) (hg _ wF_X12_101) (fun _ h9 => h9) rfl (by decide +kernel) rfl rfl (Nat.le_of_ble_eq_true rfl) dX12_done_2 (fun H locs hP hD hS => ?_)
    have hP : va_P (dC, dI) vwCl (rW g ty Y pa kp ks I tl ac wr 0) H := hP
    have hD : va_D A (rW g ty Y pa kp ks I tl ac wr 0) := hD
    refine lv_iload_n hx hb dX12_done_5 rfl (lv_at hl 1 rfl) ?_
    refine lv_if_lt (tgt := 15) hx hb dX12_done_6 (by decide) (fun c9 => absurd c9 (by decide)) (fun _ => ?_)
    refine lv_iload_n hx hb dX12_done_9 rfl (lv_at hl 1 rfl) ?_
    refine lv_bipush (v := 31) hx hb dX12_done_10 (by decide) ?_
    refine lv_icmp_le (tgt := 19) hx hb dX12_done_12 (by decide) (fun _ => ?_) (fun c9 => absurd (by decide) c9) 
    refine lv_iload_n hx hb dX12_done_19 rfl (lv_at hl 1 rfl) ?_
    refine lv_if_eq (tgt := 46) hx hb dX12_done_20 (by decide) (fun c9 => absurd c9 (by decide)) (fun _ => ?_)
    refine lv_iload_n hx hb dX12_done_23 rfl (lv_at hl 1 rfl) ?_
    refine lv_iconst (v := 4) hx hb dX12_done_24 (by decide) ?_
    refine lv_icmp_eq (tgt := 46) hx hb dX12_done_25 (by decide) (fun c9 => absurd c9 (by decide)) (fun _ => ?_)
    refine lv_iload_n hx hb dX12_done_28 rfl (lv_at hl 1 rfl) ?_
    refine lv_bipush (v := 9) hx hb dX12_done_29 (by decide) ?_
    refine lv_icmp_eq (tgt := 46) hx hb dX12_done_31 (by decide) (fun c9 => absurd c9 (by decide)) (fun _ => ?_)
    refine lv_iload_n hx hb dX12_done_34 rfl (lv_at hl 1 rfl) ?_
    refine lv_bipush (v := 13) hx hb dX12_done_35 (by decide) ?_
    refine lv_icmp_eq (tgt := 46) hx hb dX12_done_37 (by decide) (fun c9 => absurd c9 (by decide)) (fun _ => ?_)
    refine lv_iload_n hx hb dX12_done_40 rfl (lv_at hl 1 rfl) ?_
    refine lv_bipush (v := 14) hx hb dX12_done_41 (by decide) ?_
    refine lv_icmp_ne (tgt := 70) hx hb dX12_done_43 (by decide) (fun _ => ?_) (fun c9 => absurd c9 (by decide)) 
    refine lv_iload_n hx hb dX12_done_70 rfl (lv_at hl 1 rfl) ?_
    refine lv_bipush (v := 8) hx hb dX12_done_71 (by decide) ?_
    refine lv_icmp_gt (tgt := 86) hx hb dX12_done_73 (by decide) (fun _ => ?_) (fun c9 => absurd (by decide) c9) 
    refine lv_iload_n hx hb dX12_done_86 rfl (lv_at hl 1 rfl) ?_
    refine lv_bipush (v := 21) hx hb dX12_done_87 (by decide) ?_
    refine lv_icmp_gt (tgt := 102) hx hb dX12_done_89 (by decide) (fun _ => ?_) (fun c9 => absurd (by decide) c9) 
    refine lv_iload_n hx hb dX12_done_102 rfl (lv_at hl 1 rfl) ?_
    refine lv_bipush (v := 25) hx hb dX12_done_103 (by decide) ?_
    refine lv_icmp_gt (tgt := 115) hx hb dX12_done_105 (by decide) (fun c9 => absurd c9 (by decide)) (fun _ => ?_)
    refine lv_aload_n hx hb dX12_done_108 rfl (lv_at hl 0 rfl) ?_
    refine lv_iload_n hx hb dX12_done_109 rfl (lv_at hl 1 rfl) ?_
    refine lv_iload_n hx hb dX12_done_110 rfl (lv_at hl 3 rfl) ?_
    refine cV_l (C := RX12) (n := 2) (rest := []) hx hb hml hown hg hT (c_X12_divides_25 l dC dI g ty H.size Y pa kp ks I tl ac wr 0 ρ pl P md Z rz9 u8 b0 (by exact rel) (by exact wf) (by exact pre2) (by exact hcnt) (by exact htl) (by exact pre5) (by rfl) (by exact hq8)) (cv_of hg wM_X12_118 wN_X12_divides wL_X12_X12_divides wK_X12_divides wI_X12 (by decide +kernel) ⟨Nat.le_of_ble_eq_true rfl, Nat.le_of_ble_eq_true rfl⟩) hK hP hD hS hA (va_recv hK hP (ci := 14) (q0 := 0) rfl rfl) rfl hl.1 rfl (Nat.le_of_ble_eq_true rfl) dX12_done_111 ⟨by show 0 + 0 ≤ 96000 - Y.2.2.2.2.2.2.2.1; omega, by show 0 + 0 ≤ 10 * (96000 - Y.2.2.2.2.2.2.2.1) + 2 * (1542237 - Y.2.2.2.2.2.2.2.2.1); omega⟩ (fun r_312 u_313 H locs q_311 hP hD hS => ?_)
    obtain ⟨r'_314, Y'_315, pa'_316, kp'_317, tl'_318, wr'_319, tw'_320, rfl, rfl, f_321⟩ := q_311
    have hP : va_P (dC, dI) vwCl (rW g ty Y'_315 pa'_316 kp'_317 ks I tl'_318 ac wr'_319 tw'_320) H := hP
    have hD : va_D A (rW g ty Y'_315 pa'_316 kp'_317 ks I tl'_318 ac wr'_319 tw'_320) := hD
    refine W.bound (fun gb1 gb2 => ?_)
    have gb1 : H.size ≤ s.heap.size + (0 + 0) := gb1
    have gb2 : hsum H ≤ hsum s.heap + (0 + 0) := gb2
    refine W.widen (k := 96000 - Y.2.2.2.2.2.2.2.1) (n := 10 * (96000 - Y.2.2.2.2.2.2.2.1) + 2 * (1542237 - Y.2.2.2.2.2.2.2.2.1)) (by show 0 + 0 ≤ 96000 - Y.2.2.2.2.2.2.2.1; omega) (by show 0 + 0 ≤ 10 * (96000 - Y.2.2.2.2.2.2.2.1) + 2 * (1542237 - Y.2.2.2.2.2.2.2.2.1); omega) ?_
    refine gr_l (wo := fun u : rY × (Nat → Int32) × (Nat → Int32) × (Nat → Int32) × Int32 × Int32 => rW g ty u.1 u.2.1 u.2.2.1 ks I u.2.2.2.1 ac u.2.2.2.2.1 u.2.2.2.2.2) ((Y'_315, pa'_316, kp'_317, tl'_318, wr'_319, tw'_320)) hx hb hr hlk hS hP hD (by show H.size ≤ sz + (Y'_315.2.2.2.2.2.2.2.1 - Y.2.2.2.2.2.2.2.1); rw [← hsz]; omega) (by show hsum H ≤ tot + (10 * (Y'_315.2.2.2.2.2.2.2.1 - Y.2.2.2.2.2.2.2.1) + 2 * (Y'_315.2.2.2.2.2.2.2.2.1 - Y.2.2.2.2.2.2.2.2.1)); rw [← htot]; omega) ?_ dX12_done_114
    exact ⟨r'_314, Y'_315, pa'_316, kp'_317, tl'_318, wr'_319, tw'_320, rfl, rfl, (by assumption)⟩
  · show _
    have hl : lv_has ls 5 [(0, .ref (g 8)), (1, .int 26), (2, .int a0), (3, .int b0), (4, .int c0)] := hl
    refine lv_aload_n hx hb dX12_done_0 rfl (lv_at hl 0 rfl) ?_
    refine lv_iconst (v := 0) hx hb dX12_done_1 (by decide) ?_
    refine va_put (D := (dC, dI)) (ci := 14) (v := .int 0) (ty := .boolean) (C := RX12) (T := TX12) (N := 21) hx hb hg inG12 tyX12 tyX12_ok nmX12 hown hK hP hD hS 0 rfl rfl 20 (by decide) (hg _ wF_X12_101) (fun _ h9 => h9) rfl (by decide +kernel) rfl rfl (Nat.le_of_ble_eq_true rfl) dX12_done_2 (fun H locs hP hD hS => ?_)
    have hP : va_P (dC, dI) vwCl (rW g ty Y pa kp ks I tl ac wr 0) H := hP
    have hD : va_D A (rW g ty Y pa kp ks I tl ac wr 0) := hD
    refine lv_iload_n hx hb dX12_done_5 rfl (lv_at hl 1 rfl) ?_
    refine lv_if_lt (tgt := 15) hx hb dX12_done_6 (by decide) (fun c9 => absurd c9 (by decide)) (fun _ => ?_)
    refine lv_iload_n hx hb dX12_done_9 rfl (lv_at hl 1 rfl) ?_
    refine lv_bipush (v := 31) hx hb dX12_done_10 (by decide) ?_
    refine lv_icmp_le (tgt := 19) hx hb dX12_done_12 (by decide) (fun _ => ?_) (fun c9 => absurd (by decide) c9) 
    refine lv_iload_n hx hb dX12_done_19 rfl (lv_at hl 1 rfl) ?_
    refine lv_if_eq (tgt := 46) hx hb dX12_done_20 (by decide) (fun c9 => absurd c9 (by decide)) (fun _ => ?_)
    refine lv_iload_n hx hb dX12_done_23 rfl (lv_at hl 1 rfl) ?_
    refine lv_iconst (v := 4) hx hb dX12_done_24 (by decide) ?_
    refine lv_icmp_eq (tgt := 46) hx hb dX12_done_25 (by decide) (fun c9 => absurd c9 (by decide)) (fun _ => ?_)
    refine lv_iload_n hx hb dX12_done_28 rfl (lv_at hl 1 rfl) ?_
    refine lv_bipush (v := 9) hx hb dX12_done_29 (by decide) ?_
    refine lv_icmp_eq (tgt := 46) hx hb dX12_done_31 (by decide) (fun c9 => absurd c9 (by decide)) (fun _ => ?_)
    refine lv_iload_n hx hb dX12_done_34 rfl (lv_at hl 1 rfl) ?_
    refine lv_bipush (v := 13) hx hb dX12_done_35 (by decide) ?_
    refine lv_icmp_eq (tgt := 46) hx hb dX12_done_37 (by decide) (fun c9 => absurd c9 (by decide)) (fun _ => ?_)
    refine lv_iload_n hx hb dX12_done_40 rfl (lv_at hl 1 rfl) ?_
    refine lv_bipush (v := 14) hx hb dX12_done_41 (by decide) ?_
    refine lv_icmp_ne (tgt := 70) hx hb dX12_done_43 (by decide) (fun _ => ?_) (fun c9 => absurd c9 (by decide)) 
    refine lv_iload_n hx hb dX12_done_70 rfl (lv_at hl 1 rfl) ?_
    refine lv_bipush (v := 8) hx hb dX12_done_71 (by decide) ?_
    refine lv_icmp_gt (tgt := 86) hx hb dX12_done_73 (by decide) (fun _ => ?_) (fun c9 => absurd (by decide) c9) 
    refine lv_iload_n hx hb dX12_done_86 rfl (lv_at hl 1 rfl) ?_
    refine lv_bipush (v := 21) hx hb dX12_done_87 (by decide) ?_
    refine lv_icmp_gt (tgt := 102) hx hb dX12_done_89 (by decide) (fun _ => ?_) (fun c9 => absurd (by decide) c9) 
    refine lv_iload_n hx hb dX12_done_102 rfl (lv_at hl 1 rfl) ?_
    refine lv_bipush (v := 25) hx hb dX12_done_103 (by decide) ?_
    refine lv_icmp_gt (tgt := 115) hx hb dX12_done_105 (by decide) (fun _ => ?_) (fun c9 => absurd (by decide) c9) 
    refine lv_aload_n hx hb dX12_done_115 rfl (lv_at hl 0 rfl) ?_
    refine lv_iload_n hx hb dX12_done_116 rfl (lv_at hl 1 rfl) ?_
    refine lv_iload_n hx hb dX12_done_117 rfl (lv_at hl 2 rfl) ?_
    refine lv_iload_n hx hb dX12_done_118 rfl (lv_at hl 3 rfl) ?_
    refine lv_iload hx hb dX12_done_119 (lv_at hl 4 rfl) ?_
    refine cV_l (C := RX12) (n := 4) (rest := []) hx hb hml hown hg hT (c_X12_others_26 l dC dI g ty H.size Y pa kp ks I tl ac wr 0 ρ pl P md Z rz9 u8 a0 b0 c0 (by exact rel) (by exact wf) (by exact pre2) (by exact hcnt) (by exact htl) (by exact pre5) (by rfl) (by exact hq8)) (cv_of hg wM_X12_122 wN_X12_others wL_X12_X12_others wK_X12_others wI_X12 (by decide +kernel) ⟨Nat.le_of_ble_eq_true rfl, Nat.le_of_ble_eq_true rfl⟩) hK hP hD hS hA (va_recv hK hP (ci := 14) (q0 := 0) rfl rfl) rfl hl.1 rfl (Nat.le_of_ble_eq_true rfl) dX12_done_121 ⟨by show 0 + 0 ≤ 96000 - Y.2.2.2.2.2.2.2.1; omega, by show 0 + 0 ≤ 10 * (96000 - Y.2.2.2.2.2.2.2.1) + 2 * (1542237 - Y.2.2.2.2.2.2.2.2.1); omega⟩ (fun r_323 u_324 H locs q_322 hP hD hS => ?_)
    obtain ⟨r'_325, Y'_326, pa'_327, kp'_328, tl'_329, wr'_330, tw'_331, rfl, rfl, f_332⟩ := q_322
    have hP : va_P (dC, dI) vwCl (rW g ty Y'_326 pa'_327 kp'_328 ks I tl'_329 ac wr'_330 tw'_331) H := hP
    have hD : va_D A (rW g ty Y'_326 pa'_327 kp'_328 ks I tl'_329 ac wr'_330 tw'_331) := hD
    refine W.bound (fun gb1 gb2 => ?_)
    have gb1 : H.size ≤ s.heap.size + (0 + 0) := gb1
    have gb2 : hsum H ≤ hsum s.heap + (0 + 0) := gb2
    refine W.widen (k := 96000 - Y.2.2.2.2.2.2.2.1) (n := 10 * (96000 - Y.2.2.2.2.2.2.2.1) + 2 * (1542237 - Y.2.2.2.2.2.2.2.2.1)) (by show 0 + 0 ≤ 96000 - Y.2.2.2.2.2.2.2.1; omega) (by show 0 + 0 ≤ 10 * (96000 - Y.2.2.2.2.2.2.2.1) + 2 * (1542237 - Y.2.2.2.2.2.2.2.2.1); omega) ?_
    refine gr_l (wo := fun u : rY × (Nat → Int32) × (Nat → Int32) × (Nat → Int32) × Int32 × Int32 => rW g ty u.1 u.2.1 u.2.2.1 ks I u.2.2.2.1 ac u.2.2.2.2.1 u.2.2.2.2.2) ((Y'_326, pa'_327, kp'_328, tl'_329, wr'_330, tw'_331)) hx hb hr hlk hS hP hD (by show H.size ≤ sz + (Y'_326.2.2.2.2.2.2.2.1 - Y.2.2.2.2.2.2.2.1); rw [← hsz]; omega) (by show hsum H ≤ tot + (10 * (Y'_326.2.2.2.2.2.2.2.1 - Y.2.2.2.2.2.2.2.1) + 2 * (Y'_326.2.2.2.2.2.2.2.2.1 - Y.2.2.2.2.2.2.2.2.1)); rw [← htot]; omega) ?_ dX12_done_124
    exact ⟨r'_325, Y'_326, pa'_327, kp'_328, tl'_329, wr'_330, tw'_331, rfl, rfl, (by assumption)⟩
  · show _
    have hl : lv_has ls 5 [(0, .ref (g 8)), (1, .int 27), (2, .int a0), (3, .int b0), (4, .int c0)] := hl
    refine lv_aload_n hx hb dX12_done_0 rfl (lv_at hl 0 rfl) ?_
    refine lv_iconst (v := 0) hx hb dX12_done_1 (by decide) ?_
    refine va_put (D := (dC, dI)) (ci := 14) (v := .int 0) (ty := .boolean) (C := RX12) (T := TX12) (N := 21) hx hb hg inG12 tyX12 tyX12_ok nmX12 hown hK hP hD hS 0 rfl rfl 20 (by decide) (hg _ wF_X12_101) (fun _ h9 => h9) rfl (by decide +kernel) rfl rfl (Nat.le_of_ble_eq_true rfl) dX12_done_2 (fun H locs hP hD hS => ?_)
    have hP : va_P (dC, dI) vwCl (rW g ty Y pa kp ks I tl ac wr 0) H := hP
    have hD : va_D A (rW g ty Y pa kp ks I tl ac wr 0) := hD
    refine lv_iload_n hx hb dX12_done_5 rfl (lv_at hl 1 rfl) ?_
    refine lv_if_lt (tgt := 15) hx hb dX12_done_6 (by decide) (fun c9 => absurd c9 (by decide)) (fun _ => ?_)
    refine lv_iload_n hx hb dX12_done_9 rfl (lv_at hl 1 rfl) ?_
    refine lv_bipush (v := 31) hx hb dX12_done_10 (by decide) ?_
    refine lv_icmp_le (tgt := 19) hx hb dX12_done_12 (by decide) (fun _ => ?_) (fun c9 => absurd (by decide) c9) 
    refine lv_iload_n hx hb dX12_done_19 rfl (lv_at hl 1 rfl) ?_
    refine lv_if_eq (tgt := 46) hx hb dX12_done_20 (by decide) (fun c9 => absurd c9 (by decide)) (fun _ => ?_)
    refine lv_iload_n hx hb dX12_done_23 rfl (lv_at hl 1 rfl) ?_
    refine lv_iconst (v := 4) hx hb dX12_done_24 (by decide) ?_
    refine lv_icmp_eq (tgt := 46) hx hb dX12_done_25 (by decide) (fun c9 => absurd c9 (by decide)) (fun _ => ?_)
    refine lv_iload_n hx hb dX12_done_28 rfl (lv_at hl 1 rfl) ?_
    refine lv_bipush (v := 9) hx hb dX12_done_29 (by decide) ?_
    refine lv_icmp_eq (tgt := 46) hx hb dX12_done_31 (by decide) (fun c9 => absurd c9 (by decide)) (fun _ => ?_)
    refine lv_iload_n hx hb dX12_done_34 rfl (lv_at hl 1 rfl) ?_
    refine lv_bipush (v := 13) hx hb dX12_done_35 (by decide) ?_
    refine lv_icmp_eq (tgt := 46) hx hb dX12_done_37 (by decide) (fun c9 => absurd c9 (by decide)) (fun _ => ?_)
    refine lv_iload_n hx hb dX12_done_40 rfl (lv_at hl 1 rfl) ?_
    refine lv_bipush (v := 14) hx hb dX12_done_41 (by decide) ?_
    refine lv_icmp_ne (tgt := 70) hx hb dX12_done_43 (by decide) (fun _ => ?_) (fun c9 => absurd c9 (by decide)) 
    refine lv_iload_n hx hb dX12_done_70 rfl (lv_at hl 1 rfl) ?_
    refine lv_bipush (v := 8) hx hb dX12_done_71 (by decide) ?_
    refine lv_icmp_gt (tgt := 86) hx hb dX12_done_73 (by decide) (fun _ => ?_) (fun c9 => absurd (by decide) c9) 
    refine lv_iload_n hx hb dX12_done_86 rfl (lv_at hl 1 rfl) ?_
    refine lv_bipush (v := 21) hx hb dX12_done_87 (by decide) ?_
    refine lv_icmp_gt (tgt := 102) hx hb dX12_done_89 (by decide) (fun _ => ?_) (fun c9 => absurd (by decide) c9) 
    refine lv_iload_n hx hb dX12_done_102 rfl (lv_at hl 1 rfl) ?_
    refine lv_bipush (v := 25) hx hb dX12_done_103 (by decide) ?_
    refine lv_icmp_gt (tgt := 115) hx hb dX12_done_105 (by decide) (fun _ => ?_) (fun c9 => absurd (by decide) c9) 
    refine lv_aload_n hx hb dX12_done_115 rfl (lv_at hl 0 rfl) ?_
    refine lv_iload_n hx hb dX12_done_116 rfl (lv_at hl 1 rfl) ?_
    refine lv_iload_n hx hb dX12_done_117 rfl (lv_at hl 2 rfl) ?_
    refine lv_iload_n hx hb dX12_done_118 rfl (lv_at hl 3 rfl) ?_
    refine lv_iload hx hb dX12_done_119 (lv_at hl 4 rfl) ?_
    refine cV_l (C := RX12) (n := 4) (rest := []) hx hb hml hown hg hT (c_X12_others_27 l dC dI g ty H.size Y pa kp ks I tl ac wr 0 ρ pl P md Z rz9 u8 a0 b0 c0 (by exact rel) (by exact wf) (by exact pre2) (by exact hcnt) (by exact htl) (by exact pre5) (by rfl) (by exact hq8)) (cv_of hg wM_X12_122 wN_X12_others wL_X12_X12_others wK_X12_others wI_X12 (by decide +kernel) ⟨Nat.le_of_ble_eq_true rfl, Nat.le_of_ble_eq_true rfl⟩) hK hP hD hS hA (va_recv hK hP (ci := 14) (q0 := 0) rfl rfl) rfl hl.1 rfl (Nat.le_of_ble_eq_true rfl) dX12_done_121 ⟨by show 0 + 0 ≤ 96000 - Y.2.2.2.2.2.2.2.1; omega, by show 0 + 0 ≤ 10 * (96000 - Y.2.2.2.2.2.2.2.1) + 2 * (1542237 - Y.2.2.2.2.2.2.2.2.1); omega⟩ (fun r_334 u_335 H locs q_333 hP hD hS => ?_)
    obtain ⟨r'_336, Y'_337, pa'_338, kp'_339, tl'_340, wr'_341, tw'_342, rfl, rfl, f_343⟩ := q_333
    have hP : va_P (dC, dI) vwCl (rW g ty Y'_337 pa'_338 kp'_339 ks I tl'_340 ac wr'_341 tw'_342) H := hP
    have hD : va_D A (rW g ty Y'_337 pa'_338 kp'_339 ks I tl'_340 ac wr'_341 tw'_342) := hD
    refine W.bound (fun gb1 gb2 => ?_)
    have gb1 : H.size ≤ s.heap.size + (0 + 0) := gb1
    have gb2 : hsum H ≤ hsum s.heap + (0 + 0) := gb2
    refine W.widen (k := 96000 - Y.2.2.2.2.2.2.2.1) (n := 10 * (96000 - Y.2.2.2.2.2.2.2.1) + 2 * (1542237 - Y.2.2.2.2.2.2.2.2.1)) (by show 0 + 0 ≤ 96000 - Y.2.2.2.2.2.2.2.1; omega) (by show 0 + 0 ≤ 10 * (96000 - Y.2.2.2.2.2.2.2.1) + 2 * (1542237 - Y.2.2.2.2.2.2.2.2.1); omega) ?_
    refine gr_l (wo := fun u : rY × (Nat → Int32) × (Nat → Int32) × (Nat → Int32) × Int32 × Int32 => rW g ty u.1 u.2.1 u.2.2.1 ks I u.2.2.2.1 ac u.2.2.2.2.1 u.2.2.2.2.2) ((Y'_337, pa'_338, kp'_339, tl'_340, wr'_341, tw'_342)) hx hb hr hlk hS hP hD (by show H.size ≤ sz + (Y'_337.2.2.2.2.2.2.2.1 - Y.2.2.2.2.2.2.2.1); rw [← hsz]; omega) (by show hsum H ≤ tot + (10 * (Y'_337.2.2.2.2.2.2.2.1 - Y.2.2.2.2.2.2.2.1) + 2 * (Y'_337.2.2.2.2.2.2.2.2.1 - Y.2.2.2.2.2.2.2.2.1)); rw [← htot]; omega) ?_ dX12_done_124
    exact ⟨r'_336, Y'_337, pa'_338, kp'_339, tl'_340, wr'_341, tw'_342, rfl, rfl, (by assumption)⟩
  · show _
    have hl : lv_has ls 5 [(0, .ref (g 8)), (1, .int 28), (2, .int a0), (3, .int b0), (4, .int c0)] := hl
    refine lv_aload_n hx hb dX12_done_0 rfl (lv_at hl 0 rfl) ?_
    refine lv_iconst (v := 0) hx hb dX12_done_1 (by decide) ?_
    refine va_put (D := (dC, dI)) (ci := 14) (v := .int 0) (ty := .boolean) (C := RX12) (T := TX12) (N := 21) hx hb hg inG12 tyX12 tyX12_ok nmX12 hown hK hP hD hS 0 rfl rfl 20 (by decide) (hg _ wF_X12_101) (fun _ h9 => h9) rfl (by decide +kernel) rfl rfl (Nat.le_of_ble_eq_true rfl) dX12_done_2 (fun H locs hP hD hS => ?_)
    have hP : va_P (dC, dI) vwCl (rW g ty Y pa kp ks I tl ac wr 0) H := hP
    have hD : va_D A (rW g ty Y pa kp ks I tl ac wr 0) := hD
    refine lv_iload_n hx hb dX12_done_5 rfl (lv_at hl 1 rfl) ?_
    refine lv_if_lt (tgt := 15) hx hb dX12_done_6 (by decide) (fun c9 => absurd c9 (by decide)) (fun _ => ?_)
    refine lv_iload_n hx hb dX12_done_9 rfl (lv_at hl 1 rfl) ?_
    refine lv_bipush (v := 31) hx hb dX12_done_10 (by decide) ?_
    refine lv_icmp_le (tgt := 19) hx hb dX12_done_12 (by decide) (fun _ => ?_) (fun c9 => absurd (by decide) c9) 
    refine lv_iload_n hx hb dX12_done_19 rfl (lv_at hl 1 rfl) ?_
    refine lv_if_eq (tgt := 46) hx hb dX12_done_20 (by decide) (fun c9 => absurd c9 (by decide)) (fun _ => ?_)
    refine lv_iload_n hx hb dX12_done_23 rfl (lv_at hl 1 rfl) ?_
    refine lv_iconst (v := 4) hx hb dX12_done_24 (by decide) ?_
    refine lv_icmp_eq (tgt := 46) hx hb dX12_done_25 (by decide) (fun c9 => absurd c9 (by decide)) (fun _ => ?_)
    refine lv_iload_n hx hb dX12_done_28 rfl (lv_at hl 1 rfl) ?_
    refine lv_bipush (v := 9) hx hb dX12_done_29 (by decide) ?_
    refine lv_icmp_eq (tgt := 46) hx hb dX12_done_31 (by decide) (fun c9 => absurd c9 (by decide)) (fun _ => ?_)
    refine lv_iload_n hx hb dX12_done_34 rfl (lv_at hl 1 rfl) ?_
    refine lv_bipush (v := 13) hx hb dX12_done_35 (by decide) ?_
    refine lv_icmp_eq (tgt := 46) hx hb dX12_done_37 (by decide) (fun c9 => absurd c9 (by decide)) (fun _ => ?_)
    refine lv_iload_n hx hb dX12_done_40 rfl (lv_at hl 1 rfl) ?_
    refine lv_bipush (v := 14) hx hb dX12_done_41 (by decide) ?_
    refine lv_icmp_ne (tgt := 70) hx hb dX12_done_43 (by decide) (fun _ => ?_) (fun c9 => absurd c9 (by decide)) 
    refine lv_iload_n hx hb dX12_done_70 rfl (lv_at hl 1 rfl) ?_
    refine lv_bipush (v := 8) hx hb dX12_done_71 (by decide) ?_
    refine lv_icmp_gt (tgt := 86) hx hb dX12_done_73 (by decide) (fun _ => ?_) (fun c9 => absurd (by decide) c9) 
    refine lv_iload_n hx hb dX12_done_86 rfl (lv_at hl 1 rfl) ?_
    refine lv_bipush (v := 21) hx hb dX12_done_87 (by decide) ?_
    refine lv_icmp_gt (tgt := 102) hx hb dX12_done_89 (by decide) (fun _ => ?_) (fun c9 => absurd (by decide) c9) 
    refine lv_iload_n hx hb dX12_done_102 rfl (lv_at hl 1 rfl) ?_
    refine lv_bipush (v := 25) hx hb dX12_done_103 (by decide) ?_
    refine lv_icmp_gt (tgt := 115) hx hb dX12_done_105 (by decide) (fun _ => ?_) (fun c9 => absurd (by decide) c9) 
    refine lv_aload_n hx hb dX12_done_115 rfl (lv_at hl 0 rfl) ?_
    refine lv_iload_n hx hb dX12_done_116 rfl (lv_at hl 1 rfl) ?_
    refine lv_iload_n hx hb dX12_done_117 rfl (lv_at hl 2 rfl) ?_
    refine lv_iload_n hx hb dX12_done_118 rfl (lv_at hl 3 rfl) ?_
    refine lv_iload hx hb dX12_done_119 (lv_at hl 4 rfl) ?_
    refine cV_l (C := RX12) (n := 4) (rest := []) hx hb hml hown hg hT (c_X12_others_28 l dC dI g ty H.size Y pa kp ks I tl ac wr 0 ρ pl P md Z rz9 u8 a0 b0 c0 (by exact rel) (by exact wf) (by exact pre2) (by exact hcnt) (by exact htl) (by exact pre5) (by rfl) (by exact hq8)) (cv_of hg wM_X12_122 wN_X12_others wL_X12_X12_others wK_X12_others wI_X12 (by decide +kernel) ⟨Nat.le_of_ble_eq_true rfl, Nat.le_of_ble_eq_true rfl⟩) hK hP hD hS hA (va_recv hK hP (ci := 14) (q0 := 0) rfl rfl) rfl hl.1 rfl (Nat.le_of_ble_eq_true rfl) dX12_done_121 ⟨by show 0 + 0 ≤ 96000 - Y.2.2.2.2.2.2.2.1; omega, by show 0 + 0 ≤ 10 * (96000 - Y.2.2.2.2.2.2.2.1) + 2 * (1542237 - Y.2.2.2.2.2.2.2.2.1); omega⟩ (fun r_345 u_346 H locs q_344 hP hD hS => ?_)
    obtain ⟨r'_347, Y'_348, pa'_349, kp'_350, tl'_351, wr'_352, tw'_353, rfl, rfl, f_354⟩ := q_344
    have hP : va_P (dC, dI) vwCl (rW g ty Y'_348 pa'_349 kp'_350 ks I tl'_351 ac wr'_352 tw'_353) H := hP
    have hD : va_D A (rW g ty Y'_348 pa'_349 kp'_350 ks I tl'_351 ac wr'_352 tw'_353) := hD
    refine W.bound (fun gb1 gb2 => ?_)
    have gb1 : H.size ≤ s.heap.size + (0 + 0) := gb1
    have gb2 : hsum H ≤ hsum s.heap + (0 + 0) := gb2
    refine W.widen (k := 96000 - Y.2.2.2.2.2.2.2.1) (n := 10 * (96000 - Y.2.2.2.2.2.2.2.1) + 2 * (1542237 - Y.2.2.2.2.2.2.2.2.1)) (by show 0 + 0 ≤ 96000 - Y.2.2.2.2.2.2.2.1; omega) (by show 0 + 0 ≤ 10 * (96000 - Y.2.2.2.2.2.2.2.1) + 2 * (1542237 - Y.2.2.2.2.2.2.2.2.1); omega) ?_
    refine gr_l (wo := fun u : rY × (Nat → Int32) × (Nat → Int32) × (Nat → Int32) × Int32 × Int32 => rW g ty u.1 u.2.1 u.2.2.1 ks I u.2.2.2.1 ac u.2.2.2.2.1 u.2.2.2.2.2) ((Y'_348, pa'_349, kp'_350, tl'_351, wr'_352, tw'_353)) hx hb hr hlk hS hP hD (by show H.size ≤ sz + (Y'_348.2.2.2.2.2.2.2.1 - Y.2.2.2.2.2.2.2.1); rw [← hsz]; omega) (by show hsum H ≤ tot + (10 * (Y'_348.2.2.2.2.2.2.2.1 - Y.2.2.2.2.2.2.2.1) + 2 * (Y'_348.2.2.2.2.2.2.2.2.1 - Y.2.2.2.2.2.2.2.2.1)); rw [← htot]; omega) ?_ dX12_done_124
    exact ⟨r'_347, Y'_348, pa'_349, kp'_350, tl'_351, wr'_352, tw'_353, rfl, rfl, (by assumption)⟩
  · show _
    have hl : lv_has ls 5 [(0, .ref (g 8)), (1, .int 29), (2, .int a0), (3, .int b0), (4, .int c0)] := hl
    refine lv_aload_n hx hb dX12_done_0 rfl (lv_at hl 0 rfl) ?_
    refine lv_iconst (v := 0) hx hb dX12_done_1 (by decide) ?_
    refine va_put (D := (dC, dI)) (ci := 14) (v := .int 0) (ty := .boolean) (C := RX12) (T := TX12) (N := 21) hx hb hg inG12 tyX12 tyX12_ok nmX12 hown hK hP hD hS 0 rfl rfl 20 (by decide) (hg _ wF_X12_101) (fun _ h9 => h9) rfl (by decide +kernel) rfl rfl (Nat.le_of_ble_eq_true rfl) dX12_done_2 (fun H locs hP hD hS => ?_)
    have hP : va_P (dC, dI) vwCl (rW g ty Y pa kp ks I tl ac wr 0) H := hP
    have hD : va_D A (rW g ty Y pa kp ks I tl ac wr 0) := hD
    refine lv_iload_n hx hb dX12_done_5 rfl (lv_at hl 1 rfl) ?_
    refine lv_if_lt (tgt := 15) hx hb dX12_done_6 (by decide) (fun c9 => absurd c9 (by decide)) (fun _ => ?_)
    refine lv_iload_n hx hb dX12_done_9 rfl (lv_at hl 1 rfl) ?_
    refine lv_bipush (v := 31) hx hb dX12_done_10 (by decide) ?_
    refine lv_icmp_le (tgt := 19) hx hb dX12_done_12 (by decide) (fun _ => ?_) (fun c9 => absurd (by decide) c9) 
    refine lv_iload_n hx hb dX12_done_19 rfl (lv_at hl 1 rfl) ?_
    refine lv_if_eq (tgt := 46) hx hb dX12_done_20 (by decide) (fun c9 => absurd c9 (by decide)) (fun _ => ?_)
    refine lv_iload_n hx hb dX12_done_23 rfl (lv_at hl 1 rfl) ?_
    refine lv_iconst (v := 4) hx hb dX12_done_24 (by decide) ?_
    refine lv_icmp_eq (tgt := 46) hx hb dX12_done_25 (by decide) (fun c9 => absurd c9 (by decide)) (fun _ => ?_)
    refine lv_iload_n hx hb dX12_done_28 rfl (lv_at hl 1 rfl) ?_
    refine lv_bipush (v := 9) hx hb dX12_done_29 (by decide) ?_
    refine lv_icmp_eq (tgt := 46) hx hb dX12_done_31 (by decide) (fun c9 => absurd c9 (by decide)) (fun _ => ?_)
    refine lv_iload_n hx hb dX12_done_34 rfl (lv_at hl 1 rfl) ?_
    refine lv_bipush (v := 13) hx hb dX12_done_35 (by decide) ?_
    refine lv_icmp_eq (tgt := 46) hx hb dX12_done_37 (by decide) (fun c9 => absurd c9 (by decide)) (fun _ => ?_)
    refine lv_iload_n hx hb dX12_done_40 rfl (lv_at hl 1 rfl) ?_
    refine lv_bipush (v := 14) hx hb dX12_done_41 (by decide) ?_
    refine lv_icmp_ne (tgt := 70) hx hb dX12_done_43 (by decide) (fun _ => ?_) (fun c9 => absurd c9 (by decide)) 
    refine lv_iload_n hx hb dX12_done_70 rfl (lv_at hl 1 rfl) ?_
    refine lv_bipush (v := 8) hx hb dX12_done_71 (by decide) ?_
    refine lv_icmp_gt (tgt := 86) hx hb dX12_done_73 (by decide) (fun _ => ?_) (fun c9 => absurd (by decide) c9) 
    refine lv_iload_n hx hb dX12_done_86 rfl (lv_at hl 1 rfl) ?_
    refine lv_bipush (v := 21) hx hb dX12_done_87 (by decide) ?_
    refine lv_icmp_gt (tgt := 102) hx hb dX12_done_89 (by decide) (fun _ => ?_) (fun c9 => absurd (by decide) c9) 
    refine lv_iload_n hx hb dX12_done_102 rfl (lv_at hl 1 rfl) ?_
    refine lv_bipush (v := 25) hx hb dX12_done_103 (by decide) ?_
    refine lv_icmp_gt (tgt := 115) hx hb dX12_done_105 (by decide) (fun _ => ?_) (fun c9 => absurd (by decide) c9) 
    refine lv_aload_n hx hb dX12_done_115 rfl (lv_at hl 0 rfl) ?_
    refine lv_iload_n hx hb dX12_done_116 rfl (lv_at hl 1 rfl) ?_
    refine lv_iload_n hx hb dX12_done_117 rfl (lv_at hl 2 rfl) ?_
    refine lv_iload_n hx hb dX12_done_118 rfl (lv_at hl 3 rfl) ?_
    refine lv_iload hx hb dX12_done_119 (lv_at hl 4 rfl) ?_
    refine cV_l (C := RX12) (n := 4) (rest := []) hx hb hml hown hg hT (c_X12_others_29 l dC dI g ty H.size Y pa kp ks I tl ac wr 0 ρ pl P md Z rz9 u8 a0 b0 c0 (by exact rel) (by exact wf) (by exact pre2) (by exact hcnt) (by exact htl) (by exact pre5) (by rfl) (by exact hq8)) (cv_of hg wM_X12_122 wN_X12_others wL_X12_X12_others wK_X12_others wI_X12 (by decide +kernel) ⟨Nat.le_of_ble_eq_true rfl, Nat.le_of_ble_eq_true rfl⟩) hK hP hD hS hA (va_recv hK hP (ci := 14) (q0 := 0) rfl rfl) rfl hl.1 rfl (Nat.le_of_ble_eq_true rfl) dX12_done_121 ⟨by show 0 + 0 ≤ 96000 - Y.2.2.2.2.2.2.2.1; omega, by show 0 + 0 ≤ 10 * (96000 - Y.2.2.2.2.2.2.2.1) + 2 * (1542237 - Y.2.2.2.2.2.2.2.2.1); omega⟩ (fun r_356 u_357 H locs q_355 hP hD hS => ?_)
    obtain ⟨r'_358, Y'_359, pa'_360, kp'_361, tl'_362, wr'_363, tw'_364, rfl, rfl, f_365⟩ := q_355
    have hP : va_P (dC, dI) vwCl (rW g ty Y'_359 pa'_360 kp'_361 ks I tl'_362 ac wr'_363 tw'_364) H := hP
    have hD : va_D A (rW g ty Y'_359 pa'_360 kp'_361 ks I tl'_362 ac wr'_363 tw'_364) := hD
    refine W.bound (fun gb1 gb2 => ?_)
    have gb1 : H.size ≤ s.heap.size + (0 + 0) := gb1
    have gb2 : hsum H ≤ hsum s.heap + (0 + 0) := gb2
    refine W.widen (k := 96000 - Y.2.2.2.2.2.2.2.1) (n := 10 * (96000 - Y.2.2.2.2.2.2.2.1) + 2 * (1542237 - Y.2.2.2.2.2.2.2.2.1)) (by show 0 + 0 ≤ 96000 - Y.2.2.2.2.2.2.2.1; omega) (by show 0 + 0 ≤ 10 * (96000 - Y.2.2.2.2.2.2.2.1) + 2 * (1542237 - Y.2.2.2.2.2.2.2.2.1); omega) ?_
    refine gr_l (wo := fun u : rY × (Nat → Int32) × (Nat → Int32) × (Nat → Int32) × Int32 × Int32 => rW g ty u.1 u.2.1 u.2.2.1 ks I u.2.2.2.1 ac u.2.2.2.2.1 u.2.2.2.2.2) ((Y'_359, pa'_360, kp'_361, tl'_362, wr'_363, tw'_364)) hx hb hr hlk hS hP hD (by show H.size ≤ sz + (Y'_359.2.2.2.2.2.2.2.1 - Y.2.2.2.2.2.2.2.1); rw [← hsz]; omega) (by show hsum H ≤ tot + (10 * (Y'_359.2.2.2.2.2.2.2.1 - Y.2.2.2.2.2.2.2.1) + 2 * (Y'_359.2.2.2.2.2.2.2.2.1 - Y.2.2.2.2.2.2.2.2.1)); rw [← htot]; omega) ?_ dX12_done_124
    exact ⟨r'_358, Y'_359, pa'_360, kp'_361, tl'_362, wr'_363, tw'_364, rfl, rfl, (by assumption)⟩
  · show _
    have hl : lv_has ls 5 [(0, .ref (g 8)), (1, .int 30), (2, .int a0), (3, .int b0), (4, .int c0)] := hl
    refine lv_aload_n hx hb dX12_done_0 rfl (lv_at hl 0 rfl) ?_
    refine lv_iconst (v := 0) hx hb dX12_done_1 (by decide) ?_
    refine va_put (D := (dC, dI)) (ci := 14) (v := .int 0) (ty := .boolean) (C := RX12) (T := TX12) (N := 21) hx hb hg inG12 tyX12 tyX12_ok nmX12 hown hK hP hD hS 0 rfl rfl 20 (by decide) (hg _ wF_X12_101) (fun _ h9 => h9) rfl (by decide +kernel) rfl rfl (Nat.le_of_ble_eq_true rfl) dX12_done_2 (fun H locs hP hD hS => ?_)
    have hP : va_P (dC, dI) vwCl (rW g ty Y pa kp ks I tl ac wr 0) H := hP
    have hD : va_D A (rW g ty Y pa kp ks I tl ac wr 0) := hD
    refine lv_iload_n hx hb dX12_done_5 rfl (lv_at hl 1 rfl) ?_
    refine lv_if_lt (tgt := 15) hx hb dX12_done_6 (by decide) (fun c9 => absurd c9 (by decide)) (fun _ => ?_)
    refine lv_iload_n hx hb dX12_done_9 rfl (lv_at hl 1 rfl) ?_
    refine lv_bipush (v := 31) hx hb dX12_done_10 (by decide) ?_
    refine lv_icmp_le (tgt := 19) hx hb dX12_done_12 (by decide) (fun _ => ?_) (fun c9 => absurd (by decide) c9) 
    refine lv_iload_n hx hb dX12_done_19 rfl (lv_at hl 1 rfl) ?_
    refine lv_if_eq (tgt := 46) hx hb dX12_done_20 (by decide) (fun c9 => absurd c9 (by decide)) (fun _ => ?_)
    refine lv_iload_n hx hb dX12_done_23 rfl (lv_at hl 1 rfl) ?_
    refine lv_iconst (v := 4) hx hb dX12_done_24 (by decide) ?_
    refine lv_icmp_eq (tgt := 46) hx hb dX12_done_25 (by decide) (fun c9 => absurd c9 (by decide)) (fun _ => ?_)
    refine lv_iload_n hx hb dX12_done_28 rfl (lv_at hl 1 rfl) ?_
    refine lv_bipush (v := 9) hx hb dX12_done_29 (by decide) ?_
    refine lv_icmp_eq (tgt := 46) hx hb dX12_done_31 (by decide) (fun c9 => absurd c9 (by decide)) (fun _ => ?_)
    refine lv_iload_n hx hb dX12_done_34 rfl (lv_at hl 1 rfl) ?_
    refine lv_bipush (v := 13) hx hb dX12_done_35 (by decide) ?_
    refine lv_icmp_eq (tgt := 46) hx hb dX12_done_37 (by decide) (fun c9 => absurd c9 (by decide)) (fun _ => ?_)
    refine lv_iload_n hx hb dX12_done_40 rfl (lv_at hl 1 rfl) ?_
    refine lv_bipush (v := 14) hx hb dX12_done_41 (by decide) ?_
    refine lv_icmp_ne (tgt := 70) hx hb dX12_done_43 (by decide) (fun _ => ?_) (fun c9 => absurd c9 (by decide)) 
    refine lv_iload_n hx hb dX12_done_70 rfl (lv_at hl 1 rfl) ?_
    refine lv_bipush (v := 8) hx hb dX12_done_71 (by decide) ?_
    refine lv_icmp_gt (tgt := 86) hx hb dX12_done_73 (by decide) (fun _ => ?_) (fun c9 => absurd (by decide) c9) 
    refine lv_iload_n hx hb dX12_done_86 rfl (lv_at hl 1 rfl) ?_
    refine lv_bipush (v := 21) hx hb dX12_done_87 (by decide) ?_
    refine lv_icmp_gt (tgt := 102) hx hb dX12_done_89 (by decide) (fun _ => ?_) (fun c9 => absurd (by decide) c9) 
    refine lv_iload_n hx hb dX12_done_102 rfl (lv_at hl 1 rfl) ?_
    refine lv_bipush (v := 25) hx hb dX12_done_103 (by decide) ?_
    refine lv_icmp_gt (tgt := 115) hx hb dX12_done_105 (by decide) (fun _ => ?_) (fun c9 => absurd (by decide) c9) 
    refine lv_aload_n hx hb dX12_done_115 rfl (lv_at hl 0 rfl) ?_
    refine lv_iload_n hx hb dX12_done_116 rfl (lv_at hl 1 rfl) ?_
    refine lv_iload_n hx hb dX12_done_117 rfl (lv_at hl 2 rfl) ?_
    refine lv_iload_n hx hb dX12_done_118 rfl (lv_at hl 3 rfl) ?_
    refine lv_iload hx hb dX12_done_119 (lv_at hl 4 rfl) ?_
    refine cV_l (C := RX12) (n := 4) (rest := []) hx hb hml hown hg hT (c_X12_others_30 l dC dI g ty H.size Y pa kp ks I tl ac wr 0 ρ pl P md Z rz9 u8 a0 b0 c0 (by exact rel) (by exact wf) (by exact pre2) (by exact hcnt) (by exact htl) (by exact pre5) (by rfl) (by exact hq8)) (cv_of hg wM_X12_122 wN_X12_others wL_X12_X12_others wK_X12_others wI_X12 (by decide +kernel) ⟨Nat.le_of_ble_eq_true rfl, Nat.le_of_ble_eq_true rfl⟩) hK hP hD hS hA (va_recv hK hP (ci := 14) (q0 := 0) rfl rfl) rfl hl.1 rfl (Nat.le_of_ble_eq_true rfl) dX12_done_121 ⟨by show 0 + 0 ≤ 96000 - Y.2.2.2.2.2.2.2.1; omega, by show 0 + 0 ≤ 10 * (96000 - Y.2.2.2.2.2.2.2.1) + 2 * (1542237 - Y.2.2.2.2.2.2.2.2.1); omega⟩ (fun r_367 u_368 H locs q_366 hP hD hS => ?_)
    obtain ⟨r'_369, Y'_370, pa'_371, kp'_372, tl'_373, wr'_374, tw'_375, rfl, rfl, f_376⟩ := q_366
    have hP : va_P (dC, dI) vwCl (rW g ty Y'_370 pa'_371 kp'_372 ks I tl'_373 ac wr'_374 tw'_375) H := hP
    have hD : va_D A (rW g ty Y'_370 pa'_371 kp'_372 ks I tl'_373 ac wr'_374 tw'_375) := hD
    refine W.bound (fun gb1 gb2 => ?_)
    have gb1 : H.size ≤ s.heap.size + (0 + 0) := gb1
    have gb2 : hsum H ≤ hsum s.heap + (0 + 0) := gb2
    refine W.widen (k := 96000 - Y.2.2.2.2.2.2.2.1) (n := 10 * (96000 - Y.2.2.2.2.2.2.2.1) + 2 * (1542237 - Y.2.2.2.2.2.2.2.2.1)) (by show 0 + 0 ≤ 96000 - Y.2.2.2.2.2.2.2.1; omega) (by show 0 + 0 ≤ 10 * (96000 - Y.2.2.2.2.2.2.2.1) + 2 * (1542237 - Y.2.2.2.2.2.2.2.2.1); omega) ?_
    refine gr_l (wo := fun u : rY × (Nat → Int32) × (Nat → Int32) × (Nat → Int32) × Int32 × Int32 => rW g ty u.1 u.2.1 u.2.2.1 ks I u.2.2.2.1 ac u.2.2.2.2.1 u.2.2.2.2.2) ((Y'_370, pa'_371, kp'_372, tl'_373, wr'_374, tw'_375)) hx hb hr hlk hS hP hD (by show H.size ≤ sz + (Y'_370.2.2.2.2.2.2.2.1 - Y.2.2.2.2.2.2.2.1); rw [← hsz]; omega) (by show hsum H ≤ tot + (10 * (Y'_370.2.2.2.2.2.2.2.1 - Y.2.2.2.2.2.2.2.1) + 2 * (Y'_370.2.2.2.2.2.2.2.2.1 - Y.2.2.2.2.2.2.2.2.1)); rw [← htot]; omega) ?_ dX12_done_124
    exact ⟨r'_369, Y'_370, pa'_371, kp'_372, tl'_373, wr'_374, tw'_375, rfl, rfl, (by assumption)⟩
  · show _
    have hl : lv_has ls 5 [(0, .ref (g 8)), (1, .int 31), (2, .int a0), (3, .int b0), (4, .int c0)] := hl
    refine lv_aload_n hx hb dX12_done_0 rfl (lv_at hl 0 rfl) ?_
    refine lv_iconst (v := 0) hx hb dX12_done_1 (by decide) ?_
    refine va_put (D := (dC, dI)) (ci := 14) (v := .int 0) (ty := .boolean) (C := RX12) (T := TX12) (N := 21) hx hb hg inG12 tyX12 tyX12_ok nmX12 hown hK hP hD hS 0 rfl rfl 20 (by decide) (hg _ wF_X12_101) (fun _ h9 => h9) rfl (by decide +kernel) rfl rfl (Nat.le_of_ble_eq_true rfl) dX12_done_2 (fun H locs hP hD hS => ?_)
    have hP : va_P (dC, dI) vwCl (rW g ty Y pa kp ks I tl ac wr 0) H := hP
    have hD : va_D A (rW g ty Y pa kp ks I tl ac wr 0) := hD
    refine lv_iload_n hx hb dX12_done_5 rfl (lv_at hl 1 rfl) ?_
    refine lv_if_lt (tgt := 15) hx hb dX12_done_6 (by decide) (fun c9 => absurd c9 (by decide)) (fun _ => ?_)
    refine lv_iload_n hx hb dX12_done_9 rfl (lv_at hl 1 rfl) ?_
    refine lv_bipush (v := 31) hx hb dX12_done_10 (by decide) ?_
    refine lv_icmp_le (tgt := 19) hx hb dX12_done_12 (by decide) (fun _ => ?_) (fun c9 => absurd (by decide) c9) 
    refine lv_iload_n hx hb dX12_done_19 rfl (lv_at hl 1 rfl) ?_
    refine lv_if_eq (tgt := 46) hx hb dX12_done_20 (by decide) (fun c9 => absurd c9 (by decide)) (fun _ => ?_)
    refine lv_iload_n hx hb dX12_done_23 rfl (lv_at hl 1 rfl) ?_
    refine lv_iconst (v := 4) hx hb dX12_done_24 (by decide) ?_
    refine lv_icmp_eq (tgt := 46) hx hb dX12_done_25 (by decide) (fun c9 => absurd c9 (by decide)) (fun _ => ?_)
    refine lv_iload_n hx hb dX12_done_28 rfl (lv_at hl 1 rfl) ?_
    refine lv_bipush (v := 9) hx hb dX12_done_29 (by decide) ?_
    refine lv_icmp_eq (tgt := 46) hx hb dX12_done_31 (by decide) (fun c9 => absurd c9 (by decide)) (fun _ => ?_)
    refine lv_iload_n hx hb dX12_done_34 rfl (lv_at hl 1 rfl) ?_
    refine lv_bipush (v := 13) hx hb dX12_done_35 (by decide) ?_
    refine lv_icmp_eq (tgt := 46) hx hb dX12_done_37 (by decide) (fun c9 => absurd c9 (by decide)) (fun _ => ?_)
    refine lv_iload_n hx hb dX12_done_40 rfl (lv_at hl 1 rfl) ?_
    refine lv_bipush (v := 14) hx hb dX12_done_41 (by decide) ?_
    refine lv_icmp_ne (tgt := 70) hx hb dX12_done_43 (by decide) (fun _ => ?_) (fun c9 => absurd c9 (by decide)) 
    refine lv_iload_n hx hb dX12_done_70 rfl (lv_at hl 1 rfl) ?_
    refine lv_bipush (v := 8) hx hb dX12_done_71 (by decide) ?_
    refine lv_icmp_gt (tgt := 86) hx hb dX12_done_73 (by decide) (fun _ => ?_) (fun c9 => absurd (by decide) c9) 
    refine lv_iload_n hx hb dX12_done_86 rfl (lv_at hl 1 rfl) ?_
    refine lv_bipush (v := 21) hx hb dX12_done_87 (by decide) ?_
    refine lv_icmp_gt (tgt := 102) hx hb dX12_done_89 (by decide) (fun _ => ?_) (fun c9 => absurd (by decide) c9) 
    refine lv_iload_n hx hb dX12_done_102 rfl (lv_at hl 1 rfl) ?_
    refine lv_bipush (v := 25) hx hb dX12_done_103 (by decide) ?_
    refine lv_icmp_gt (tgt := 115) hx hb dX12_done_105 (by decide) (fun _ => ?_) (fun c9 => absurd (by decide) c9) 
    refine lv_aload_n hx hb dX12_done_115 rfl (lv_at hl 0 rfl) ?_
    refine lv_iload_n hx hb dX12_done_116 rfl (lv_at hl 1 rfl) ?_
    refine lv_iload_n hx hb dX12_done_117 rfl (lv_at hl 2 rfl) ?_
    refine lv_iload_n hx hb dX12_done_118 rfl (lv_at hl 3 rfl) ?_
    refine lv_iload hx hb dX12_done_119 (lv_at hl 4 rfl) ?_
    refine cV_l (C := RX12) (n := 4) (rest := []) hx hb hml hown hg hT (c_X12_others_31 l dC dI g ty H.size Y pa kp ks I tl ac wr 0 ρ pl P md Z rz9 u8 a0 b0 c0 (by exact rel) (by exact wf) (by exact pre2) (by exact hcnt) (by exact htl) (by exact pre5) (by rfl) (by exact hq8)) (cv_of hg wM_X12_122 wN_X12_others wL_X12_X12_others wK_X12_others wI_X12 (by decide +kernel) ⟨Nat.le_of_ble_eq_true rfl, Nat.le_of_ble_eq_true rfl⟩) hK hP hD hS hA (va_recv hK hP (ci := 14) (q0 := 0) rfl rfl) rfl hl.1 rfl (Nat.le_of_ble_eq_true rfl) dX12_done_121 ⟨by show 0 + 0 ≤ 96000 - Y.2.2.2.2.2.2.2.1; omega, by show 0 + 0 ≤ 10 * (96000 - Y.2.2.2.2.2.2.2.1) + 2 * (1542237 - Y.2.2.2.2.2.2.2.2.1); omega⟩ (fun r_378 u_379 H locs q_377 hP hD hS => ?_)
    obtain ⟨r'_380, Y'_381, pa'_382, kp'_383, tl'_384, wr'_385, tw'_386, rfl, rfl, f_387⟩ := q_377
    have hP : va_P (dC, dI) vwCl (rW g ty Y'_381 pa'_382 kp'_383 ks I tl'_384 ac wr'_385 tw'_386) H := hP
    have hD : va_D A (rW g ty Y'_381 pa'_382 kp'_383 ks I tl'_384 ac wr'_385 tw'_386) := hD
    refine W.bound (fun gb1 gb2 => ?_)
    have gb1 : H.size ≤ s.heap.size + (0 + 0) := gb1
    have gb2 : hsum H ≤ hsum s.heap + (0 + 0) := gb2
    refine W.widen (k := 96000 - Y.2.2.2.2.2.2.2.1) (n := 10 * (96000 - Y.2.2.2.2.2.2.2.1) + 2 * (1542237 - Y.2.2.2.2.2.2.2.2.1)) (by show 0 + 0 ≤ 96000 - Y.2.2.2.2.2.2.2.1; omega) (by show 0 + 0 ≤ 10 * (96000 - Y.2.2.2.2.2.2.2.1) + 2 * (1542237 - Y.2.2.2.2.2.2.2.2.1); omega) ?_
    refine gr_l (wo := fun u : rY × (Nat → Int32) × (Nat → Int32) × (Nat → Int32) × Int32 × Int32 => rW g ty u.1 u.2.1 u.2.2.1 ks I u.2.2.2.1 ac u.2.2.2.2.1 u.2.2.2.2.2) ((Y'_381, pa'_382, kp'_383, tl'_384, wr'_385, tw'_386)) hx hb hr hlk hS hP hD (by show H.size ≤ sz + (Y'_381.2.2.2.2.2.2.2.1 - Y.2.2.2.2.2.2.2.1); rw [← hsz]; omega) (by show hsum H ≤ tot + (10 * (Y'_381.2.2.2.2.2.2.2.1 - Y.2.2.2.2.2.2.2.1) + 2 * (Y'_381.2.2.2.2.2.2.2.2.1 - Y.2.2.2.2.2.2.2.2.1)); rw [← htot]; omega) ?_ dX12_done_124
    exact ⟨r'_380, Y'_381, pa'_382, kp'_383, tl'_384, wr'_385, tw'_386, rfl, rfl, (by assumption)⟩
  · show _
    have hwn := w_out nw0 nw1 nw2 nw3 nw4 nw5 nw6 nw7 nw8 nw9 nw10 nw11 nw12 nw13 nw14 nw15 nw16 nw17 nw18 nw19 nw20 nw21 nw22 nw23 nw24 nw25 nw26 nw27 nw28 nw29 nw30 nw31
    have hl : lv_has ls 5 [(0, .ref (g 8)), (1, .int w0), (2, .int a0), (3, .int b0), (4, .int c0)] := hl
    refine lv_aload_n hx hb dX12_done_0 rfl (lv_at hl 0 rfl) ?_
    refine lv_iconst (v := 0) hx hb dX12_done_1 (by decide) ?_
    refine va_put (D := (dC, dI)) (ci := 14) (v := .int 0) (ty := .boolean) (C := RX12) (T := TX12) (N := 21) hx hb hg inG12 tyX12 tyX12_ok nmX12 hown hK hP hD hS 0 rfl rfl 20 (by decide) (hg _ wF_X12_101) (fun _ h9 => h9) rfl (by decide +kernel) rfl rfl (Nat.le_of_ble_eq_true rfl) dX12_done_2 (fun H locs hP hD hS => ?_)
    have hP : va_P (dC, dI) vwCl (rW g ty Y pa kp ks I tl ac wr 0) H := hP
    have hD : va_D A (rW g ty Y pa kp ks I tl ac wr 0) := hD
    refine lv_iload_n hx hb dX12_done_5 rfl (lv_at hl 1 rfl) ?_
    refine lv_if_lt (tgt := 15) hx hb dX12_done_6 (by decide) (fun c_388 => ?_) (fun c_388 => ?_)
    · show _
      refine lv_ldc2 (v := (-1)) hx hb hown (hg _ wQ_X12_105) dX12_done_15 ?_
      refine W.bound (fun gb1 gb2 => ?_)
      have gb1 : H.size ≤ s.heap.size + (0) := gb1
      have gb2 : hsum H ≤ hsum s.heap + (0) := gb2
      refine W.widen (k := 96000 - Y.2.2.2.2.2.2.2.1) (n := 10 * (96000 - Y.2.2.2.2.2.2.2.1) + 2 * (1542237 - Y.2.2.2.2.2.2.2.2.1)) (by show 0 ≤ 96000 - Y.2.2.2.2.2.2.2.1; omega) (by show 0 ≤ 10 * (96000 - Y.2.2.2.2.2.2.2.1) + 2 * (1542237 - Y.2.2.2.2.2.2.2.2.1); omega) ?_
      refine gr_l (wo := fun u : rY × (Nat → Int32) × (Nat → Int32) × (Nat → Int32) × Int32 × Int32 => rW g ty u.1 u.2.1 u.2.2.1 ks I u.2.2.2.1 ac u.2.2.2.2.1 u.2.2.2.2.2) ((Y, pa, kp, tl, wr, 0)) hx hb hr hlk hS hP hD (by show H.size ≤ sz + (Y.2.2.2.2.2.2.2.1 - Y.2.2.2.2.2.2.2.1); rw [← hsz]; omega) (by show hsum H ≤ tot + (10 * (Y.2.2.2.2.2.2.2.1 - Y.2.2.2.2.2.2.2.1) + 2 * (Y.2.2.2.2.2.2.2.2.1 - Y.2.2.2.2.2.2.2.2.1)); rw [← htot]; omega) ?_ dX12_done_18
      exact ⟨(-1), Y, pa, kp, tl, wr, 0, rfl, rfl, (by exact ra_ok rel hcnt htl rfl)⟩
    · show _
      refine lv_iload_n hx hb dX12_done_9 rfl (lv_at hl 1 rfl) ?_
      refine lv_bipush (v := 31) hx hb dX12_done_10 (by decide) ?_
      refine lv_icmp_le (tgt := 19) hx hb dX12_done_12 (by decide) (fun c_389 => ?_) (fun c_389 => ?_)
      · show _
        exact absurd hwn (fun h9 => h9.elim (fun h8 => absurd h8 (by assumption)) (fun h8 => absurd (by assumption) h8))
      · show _
        refine lv_ldc2 (v := (-1)) hx hb hown (hg _ wQ_X12_105) dX12_done_15 ?_
        refine W.bound (fun gb1 gb2 => ?_)
        have gb1 : H.size ≤ s.heap.size + (0) := gb1
        have gb2 : hsum H ≤ hsum s.heap + (0) := gb2
        refine W.widen (k := 96000 - Y.2.2.2.2.2.2.2.1) (n := 10 * (96000 - Y.2.2.2.2.2.2.2.1) + 2 * (1542237 - Y.2.2.2.2.2.2.2.2.1)) (by show 0 ≤ 96000 - Y.2.2.2.2.2.2.2.1; omega) (by show 0 ≤ 10 * (96000 - Y.2.2.2.2.2.2.2.1) + 2 * (1542237 - Y.2.2.2.2.2.2.2.2.1); omega) ?_
        refine gr_l (wo := fun u : rY × (Nat → Int32) × (Nat → Int32) × (Nat → Int32) × Int32 × Int32 => rW g ty u.1 u.2.1 u.2.2.1 ks I u.2.2.2.1 ac u.2.2.2.2.1 u.2.2.2.2.2) ((Y, pa, kp, tl, wr, 0)) hx hb hr hlk hS hP hD (by show H.size ≤ sz + (Y.2.2.2.2.2.2.2.1 - Y.2.2.2.2.2.2.2.1); rw [← hsz]; omega) (by show hsum H ≤ tot + (10 * (Y.2.2.2.2.2.2.2.1 - Y.2.2.2.2.2.2.2.1) + 2 * (Y.2.2.2.2.2.2.2.2.1 - Y.2.2.2.2.2.2.2.2.1)); rw [← htot]; omega) ?_ dX12_done_18
        exact ⟨(-1), Y, pa, kp, tl, wr, 0, rfl, rfl, (by exact ra_ok rel hcnt htl rfl)⟩

theorem row_kv {k : Nat} {v s : Int32} (hk : k = 5) (h : kOf k v s = true) : v = s := by
  subst hk
  simp only [kOf, beq_iff_eq] at h
  exact h.symm
theorem aCell_0 (v : Int64) : aCell 0 v = v.toInt32.toInt64 := by unfold aCell; rw [if_pos rfl]
theorem pl_ll {n : Int32} {Y : rY} {pa : Nat → Int32} {ρ : Nat → Nat} {pl : Nat → Option Nat} {P : cQ} (h : rR n Y pa ρ pl P) {x : Int32} {o : Option Nat} (hx : vp_in x 32) (e : pl x.toNatClampNeg = o) : rLl n ρ (pa x.toNatClampNeg).toInt64 o := ⟨_, rfl, e ▸ h.2.2.2.2 _ (i32_inR hx).2⟩
theorem pl_lk {n : Int32} {Y : rY} {pa : Nat → Int32} {ρ : Nat → Nat} {pl : Nat → Option Nat} {P : cQ} (h : rR n Y pa ρ pl P) {x : Int32} (hx : vp_in x 32) : rLk n ρ (pa x.toNatClampNeg) (pl x.toNatClampNeg) := h.2.2.2.2 _ (i32_inR hx).2
theorem pl_same {n : Int32} {Y : rY} {pa : Nat → Int32} {ρ : Nat → Nat} {pl : Nat → Option Nat} {P : cQ} (h : rR n Y pa ρ pl P) {x y : Int32} (hx : vp_in x 32) (hy : vp_in y 32) : pa x.toNatClampNeg = pa y.toNatClampNeg ↔ pl x.toNatClampNeg = pl y.toNatClampNeg := by
  have a := pl_lk h hx
  have b := pl_lk h hy
  constructor
  · intro e
    rw [e] at a
    rcases a with ⟨a1, a2⟩ | ⟨a1, a2, a3⟩
    · rcases b with ⟨b1, b2⟩ | ⟨b1, b2, b3⟩
      · rw [a2, b2]
      · rw [a1] at b1; exact absurd b1 (by decide)
    · rcases b with ⟨b1, b2⟩ | ⟨b1, b2, b3⟩
      · rw [b1] at a1; exact absurd a1 (by decide)
      · rw [a3, b3]
  · intro e
    rcases a with ⟨a1, a2⟩ | ⟨a1, a2, a3⟩
    · rcases b with ⟨b1, b2⟩ | ⟨b1, b2, b3⟩
      · rw [a1, b1]
      · rw [a2, b3] at e; cases e
    · rcases b with ⟨b1, b2⟩ | ⟨b1, b2, b3⟩
      · rw [a3, b2] at e; cases e
      · rw [a3, b3] at e
        have i1 := rk_in h a1 a2
        have i2 := rk_in h b1 b2
        have := h.2.2.2.1 _ _ i1.2.1 i1.2.2.1 i2.2.1 i2.2.2.1 (Option.some.inj e)
        have p1 := (i32_pos a1).1
        have p2 := (i32_pos b1).1
        rw [Int32.le_iff_toInt_le, ci_0] at p1 p2
        have this : (pa x.toNatClampNeg).toInt.toNat = (pa y.toNatClampNeg).toInt.toNat := this
        exact Int32.toInt_inj.mp (by omega)
theorem wg_2 {k : Nat} {v b x : Int32} (hx : x = rSt k v) (hk : k < 3) (h : x = 12) : v * 3 + b = kWt k v b := by
  rcases (show k = 0 ∨ k = 1 ∨ k = 2 by omega) with rfl | rfl | rfl
  · rw [hx] at h; exact absurd h (by show ¬ (14 : Int32) = 12; decide)
  · rw [hx] at h; exact absurd h (by show ¬ (13 : Int32) = 12; decide)
  · rfl
theorem wg_1 {k : Nat} {v b x : Int32} (hx : x = rSt k v) (hk : k < 3) (h : x = 13) : v * 5 - b = kWt k v b := by
  rcases (show k = 0 ∨ k = 1 ∨ k = 2 by omega) with rfl | rfl | rfl
  · rw [hx] at h; exact absurd h (by show ¬ (14 : Int32) = 13; decide)
  · rfl
  · rw [hx] at h; exact absurd h (by show ¬ (12 : Int32) = 13; decide)
theorem wg_0 {k : Nat} {v b x : Int32} (hx : x = rSt k v) (hk : k < 3) (h : ¬ x = 12) (h1 : ¬ x = 13) : v * 5 - b + 1 = kWt k v b := by
  rcases (show k = 0 ∨ k = 1 ∨ k = 2 by omega) with rfl | rfl | rfl
  · rfl
  · rw [hx] at h1; exact absurd rfl h1
  · rw [hx] at h; exact absurd rfl h
theorem ro_1 {k : Nat} {v b x : Int32} (hx : x = rSt k v) (hk : k = 0 ∨ k = 1 ∨ k = 3) (h : x = 13) : v ^^^ b = kRo k v b := by
  rcases hk with rfl | rfl | rfl
  · rw [hx] at h; exact absurd h (by show ¬ (14 : Int32) = 13; decide)
  · rfl
  · rw [hx] at h; exact absurd h (by show ¬ (15 : Int32) = 13; decide)
theorem ro_0 {k : Nat} {v b x : Int32} (hx : x = rSt k v) (hk : k = 0 ∨ k = 1 ∨ k = 3) (h : x = 14) : v ||| b = kRo k v b := by
  rcases hk with rfl | rfl | rfl
  · rfl
  · rw [hx] at h; exact absurd h (by show ¬ (13 : Int32) = 14; decide)
  · rw [hx] at h; exact absurd h (by show ¬ (15 : Int32) = 14; decide)
theorem ro_3 {k : Nat} {v b x : Int32} (hx : x = rSt k v) (hk : k = 0 ∨ k = 1 ∨ k = 3) (h : ¬ x = 13) (h1 : ¬ x = 14) : v &&& b = kRo k v b := by
  rcases hk with rfl | rfl | rfl
  · rw [hx] at h1; exact absurd rfl h1
  · rw [hx] at h; exact absurd rfl h
  · rfl
theorem kg_5 {k : Nat} (h : k = 5) : k < 7 := by omega
theorem let_w {x v : Int32} (h : x = 16 + v) : x - 16 = v := by
  subst h
  rw [Int32.add_comm]
  exact Int32.add_sub_cancel _ _
theorem sh_rim {pl : Nat → Option Nat} {P : cQ} {t x : Nat} {s : Int32} (wf : cWF pl P) (hp : pl x = some t) (h : kOf (P.2.1 t) (P.2.2.1 t) s = true) : (s = 8 → P.2.2.2.1 t = 0) ∧ (s = 11 → P.2.2.2.1 t = 14) ∧ (s = 9 → (P.2.2.1 t = 9 ∧ P.2.2.2.1 t = 12) ∨ (P.2.2.1 t = 10 ∧ P.2.2.2.1 t = 13)) := by
  obtain ⟨m1, m2⟩ := wf.1 _ _ hp
  rcases ki_all wf m1 m2 h with ⟨-, e | e | e⟩ | ⟨-, e⟩ | ⟨-, e⟩ | ⟨-, e⟩ | ⟨-, k, h1, -, e⟩ | ⟨-, ⟨e, a, b⟩ | ⟨e, a, b⟩ | ⟨e, a, b⟩ | ⟨e, a, b⟩ | ⟨e, a, b⟩⟩
  all_goals first
    | (refine ⟨fun h9 => ?_, fun h9 => ?_, fun h9 => ?_⟩ <;> first | exact b | exact Or.inl ⟨a, b⟩ | exact Or.inr ⟨a, b⟩ | exact absurd (h9.symm.trans e) (by decide) | exact absurd (h9.symm.trans e) (nI_lit h1 (by decide)))
theorem let_ne {pl : Nat → Option Nat} {P : cQ} {t : Nat} (wf : cWF pl P) (ht : t ∈ P.1) (hk : P.2.1 t = 4) : ¬ P.2.2.1 t = -1 := by
  obtain ⟨k, h1, h2⟩ := wf.2.2.2.2.2.2.2.1 t ht hk
  rw [h2]
  exact (show ∀ k : Fin 7, ¬ nI k.1 = -1 by decide +kernel) ⟨k, h1⟩
def q_X11_o5 (a0 b0 c0 : Int32) (pl : Nat → Option Nat) (ac : Int64) (ft md : Int32) (Z : cZ) (P : cQ) (rz : Int64) (u : Int32) : Prop := (0 = rz ∧ 2 = u ∧ ¬ vp_in a0 32) ∨ (∃ t : Nat, 0 = rz ∧ 3 = u ∧ vp_in a0 32 ∧ pl a0.toNatClampNeg = some t ∧ kOf (P.2.1 t) (P.2.2.1 t) 8 = false) ∨ (0 = rz ∧ 1 = u ∧ vp_in a0 32 ∧ pl a0.toNatClampNeg = none) ∨ (∃ t y : Nat, 0 = rz ∧ 2 = u ∧ vp_in a0 32 ∧ pl a0.toNatClampNeg = some t ∧ kOf (P.2.1 t) (P.2.2.1 t) 8 = true ∧ P.2.2.2.2.1 t = some y ∧ ¬ vp_in b0 (P.2.2.2.2.2.1 y)) ∨ (∃ t y : Nat, 0 = rz ∧ 1 = u ∧ vp_in a0 32 ∧ pl a0.toNatClampNeg = some t ∧ kOf (P.2.1 t) (P.2.2.1 t) 8 = true ∧ P.2.2.2.2.1 t = some y ∧ vp_in b0 (P.2.2.2.2.2.1 y) ∧ P.2.2.2.2.2.2.2 y b0.toNatClampNeg = none) ∨ (∃ t y q z : Nat, 0 = rz ∧ 2 = u ∧ vp_in a0 32 ∧ pl a0.toNatClampNeg = some t ∧ kOf (P.2.1 t) (P.2.2.1 t) 8 = true ∧ P.2.2.2.2.1 t = some y ∧ vp_in b0 (P.2.2.2.2.2.1 y) ∧ P.2.2.2.2.2.2.2 y b0.toNatClampNeg = some q ∧ P.2.2.2.2.1 q = some z ∧ ¬ vp_in c0 (P.2.2.2.2.2.1 z)) ∨ (∃ t y q z : Nat, (P.2.2.2.2.2.2.1 z c0.toNatClampNeg) = rz ∧ ft = u ∧ vp_in a0 32 ∧ pl a0.toNatClampNeg = some t ∧ kOf (P.2.1 t) (P.2.2.1 t) 8 = true ∧ P.2.2.2.2.1 t = some y ∧ vp_in b0 (P.2.2.2.2.2.1 y) ∧ P.2.2.2.2.2.2.2 y b0.toNatClampNeg = some q ∧ P.2.2.2.2.1 q = some z ∧ vp_in c0 (P.2.2.2.2.2.1 z) ∧ q ∈ P.1 ∧ P.2.1 q = 5)
def q_X11_o6 (a0 b0 c0 : Int32) (pl : Nat → Option Nat) (ac : Int64) (ft md : Int32) (Z : cZ) (P : cQ) (rz : Int64) (u : Int32 × cQ) : Prop := (0 = rz ∧ (2, P) = u ∧ ¬ vp_in a0 32) ∨ (∃ t : Nat, 0 = rz ∧ (3, P) = u ∧ vp_in a0 32 ∧ pl a0.toNatClampNeg = some t ∧ kOf (P.2.1 t) (P.2.2.1 t) 8 = false) ∨ (0 = rz ∧ (1, P) = u ∧ vp_in a0 32 ∧ pl a0.toNatClampNeg = none) ∨ (∃ t y : Nat, 0 = rz ∧ (2, P) = u ∧ vp_in a0 32 ∧ pl a0.toNatClampNeg = some t ∧ kOf (P.2.1 t) (P.2.2.1 t) 8 = true ∧ P.2.2.2.2.1 t = some y ∧ ¬ vp_in b0 (P.2.2.2.2.2.1 y)) ∨ (∃ t y : Nat, 0 = rz ∧ (1, P) = u ∧ vp_in a0 32 ∧ pl a0.toNatClampNeg = some t ∧ kOf (P.2.1 t) (P.2.2.1 t) 8 = true ∧ P.2.2.2.2.1 t = some y ∧ vp_in b0 (P.2.2.2.2.2.1 y) ∧ P.2.2.2.2.2.2.2 y b0.toNatClampNeg = none) ∨ (∃ t y q z : Nat, 0 = rz ∧ (2, P) = u ∧ vp_in a0 32 ∧ pl a0.toNatClampNeg = some t ∧ kOf (P.2.1 t) (P.2.2.1 t) 8 = true ∧ P.2.2.2.2.1 t = some y ∧ vp_in b0 (P.2.2.2.2.2.1 y) ∧ P.2.2.2.2.2.2.2 y b0.toNatClampNeg = some q ∧ P.2.2.2.2.1 q = some z ∧ ¬ vp_in c0 (P.2.2.2.2.2.1 z)) ∨ (∃ t y q z : Nat, 0 = rz ∧ (ft, pLc P z (vp_updL (P.2.2.2.2.2.2.1 z) c0.toNatClampNeg (aCell (P.2.2.1 q) ac))) = u ∧ vp_in a0 32 ∧ pl a0.toNatClampNeg = some t ∧ kOf (P.2.1 t) (P.2.2.1 t) 8 = true ∧ P.2.2.2.2.1 t = some y ∧ vp_in b0 (P.2.2.2.2.2.1 y) ∧ P.2.2.2.2.2.2.2 y b0.toNatClampNeg = some q ∧ P.2.2.2.2.1 q = some z ∧ vp_in c0 (P.2.2.2.2.2.1 z) ∧ q ∈ P.1 ∧ P.2.1 q = 5)
def q_X11_o22 (b0 : Int32) (pl : Nat → Option Nat) (ac : Int64) (ft md : Int32) (Z : cZ) (P : cQ) (rz : Int64) (u : Int32) : Prop := (0 = rz ∧ 0 = u ∧ b0 = 0) ∨ (((ac.toInt32 / b0).toInt64) = rz ∧ ft = u ∧ ¬ b0 = 0)
def q_X11_o23 (b0 : Int32) (pl : Nat → Option Nat) (ac : Int64) (ft md : Int32) (Z : cZ) (P : cQ) (rz : Int64) (u : Int32) : Prop := (0 = rz ∧ 0 = u ∧ b0 = 0) ∨ (((ac.toInt32 - ac.toInt32 / b0 * b0).toInt64) = rz ∧ ft = u ∧ ¬ b0 = 0)
def q_X11_o24 (b0 : Int32) (pl : Nat → Option Nat) (ac : Int64) (ft md : Int32) (Z : cZ) (P : cQ) (rz : Int64) (u : Int32) : Prop := (0 = rz ∧ 0 = u ∧ b0 = 0) ∨ ((ac / b0.toInt64) = rz ∧ ft = u ∧ ¬ b0 = 0)
def q_X11_o25 (b0 : Int32) (pl : Nat → Option Nat) (ac : Int64) (ft md : Int32) (Z : cZ) (P : cQ) (rz : Int64) (u : Int32) : Prop := (0 = rz ∧ 0 = u ∧ b0 = 0) ∨ ((ac - ac / b0.toInt64 * b0.toInt64) = rz ∧ ft = u ∧ ¬ b0 = 0)
set_option maxHeartbeats 800000 in
set_option maxRecDepth 100000 in
theorem c_X12_rows_5 (l : Launch) (dC : Nat → ClassId) (dI : Nat → Nat → Nat) (g : Nat → Nat) (ty : Nat → ClassId) (sz : Nat) (Y : rY) (pa : Nat → Int32) (kp : Nat → Int32) (ks : Int32) (I : rI) (tl : Nat → Int32) (ac : Int64) (wr : Int32) (tw : Int32) (ρ : Nat → Nat) (pl : Nat → Option Nat) (P : cQ) (md : Int32) (Z : cZ) (rz9 : Int64) (u9 : Int32) (a0 : Int32) (b0 : Int32) (c0 : Int32) (pre0 : rR Y.2.2.2.2.2.2.2.2.2.1 Y pa ρ pl P) (pre1 : cWF pl P) (pre2 : ks = 0) (pre3 : rCnt Y md) (pre4 : tl 5 = md) (pre5 : 0 ≤ md ∧ md ≤ 6000) (pre6 : tw = 0) (pre7 : q_X11_o5 a0 b0 c0 pl ac (-1) md Z P rz9 u9) : Met l yX12_rows (Cond.code yX12_rows cX12_rows 8 (some .long) :: gT) ({ frames := 3, cells := 0, slots := 0, locals := 82 }) (cP (dC, dI) (rTy ty) (rW g ty Y pa kp ks I tl ac wr tw) sz [.ref (g 8), .int 5, .int a0, .int b0, .int c0]) (va_Ql (fun (rz : Int64) (u : rY × (Nat → Int32) × (Nat → Int32) × (Nat → Int32) × Int32 × Int32) => ∃ (r' : Int64) (Y' : rY) (pa' kp' tl' : Nat → Int32) (wr' tw' : Int32), r' = rz ∧ (Y', pa', kp', tl', wr', tw') = u ∧ rAns u9 rz9 pl P md tl Y r' Y' pa' tl' wr' tw') (cB (dC, dI) (fun u : rY × (Nat → Int32) × (Nat → Int32) × (Nat → Int32) × Int32 × Int32 => rW g ty u.1 u.2.1 u.2.2.1 ks I u.2.2.2.1 ac u.2.2.2.2.1 u.2.2.2.2.2) (va_A (rW g ty Y pa kp ks I tl ac wr tw) sz)) (va_A (rW g ty Y pa kp ks I tl ac wr tw) sz)) 0 0 (va_A (rW g ty Y pa kp ks I tl ac wr tw) sz) := by
  refine cc_of (Qa := fun A => va_Ql (fun (rz : Int64) (u : rY × (Nat → Int32) × (Nat → Int32) × (Nat → Int32) × Int32 × Int32) => ∃ (r' : Int64) (Y' : rY) (pa' kp' tl' : Nat → Int32) (wr' tw' : Int32), r' = rz ∧ (Y', pa', kp', tl', wr', tw') = u ∧ rAns u9 rz9 pl P md tl Y r' Y' pa' tl' wr' tw') (cB (dC, dI) (fun u : rY × (Nat → Int32) × (Nat → Int32) × (Nat → Int32) × Int32 × Int32 => rW g ty u.1 u.2.1 u.2.2.1 ks I u.2.2.2.1 ac u.2.2.2.2.1 u.2.2.2.2.2) A) A) (by decide) (Nat.le_of_ble_eq_true rfl) ?_
  intro p e s m below meth c A hx hb hr hml hown hg hlk hmn hP hK hD hT hS hA hsz ls hl
  have hown : s.vm.findClass RX12 = some m.cls := hown
  have rel := pre0
  have wf := pre1
  have hcnt := pre3
  have htl := pre4
  rcases pre7 with ⟨rfl, rfl, g2⟩ | ⟨t, rfl, rfl, g2, g3, g4⟩ | ⟨rfl, rfl, g2, g3⟩ | ⟨t, y, rfl, rfl, g2, g3, g4, g5, g6⟩ | ⟨t, y, rfl, rfl, g2, g3, g4, g5, g6, g7⟩ | ⟨t, y, q, z, rfl, rfl, g2, g3, g4, g5, g6, g7, g8, g9⟩ | ⟨t, y, q, z, rfl, rfl, g2, g3, g4, g5, g6, g7, g8, g9, g10, g11⟩
  · show _
    have hl : lv_has ls 8 [(0, .ref (g 8)), (1, .int 5), (2, .int a0), (3, .int b0), (4, .int c0)] := hl
    refine lv_iload_n hx hb dX12_rows_0 rfl (lv_at hl 3 rfl) ?_
    refine lv_bipush (v := 7) hx hb dX12_rows_1 (by decide) ?_
    refine lv_iand hx hb dX12_rows_3 ?_
    refine lv_istore (lv' := [(5, .int (b0 &&& 7)), (0, .ref (g 8)), (1, .int 5), (2, .int a0), (3, .int b0), (4, .int c0)]) hx hb dX12_rows_4 hl (by decide) rfl (fun ls hl => ?_)
    refine lv_iload_n hx hb dX12_rows_6 rfl (lv_at hl 2 rfl) ?_
    refine lv_tableIn (off := 359) (tgt := 366) hx hb dX12_rows_7 (by decide) (by decide) (by decide) (by decide) ?_
    refine lv_aload_n hx hb dX12_rows_366 rfl (lv_at hl 1 rfl) ?_
    refine lv_iload_n hx hb dX12_rows_367 rfl (lv_at hl 3 rfl) ?_
    refine lv_bipush (v := 8) hx hb dX12_rows_368 (by decide) ?_
    refine cV_i (C := RX12) (n := 2) (rest := []) hx hb hml hown hg hT (c_X12_thing l dC dI g ty s.heap.size Y pa kp ks I tl ac wr tw ρ pl P a0 8 (by exact rel) (by exact wf) (by exact i32_in (by decide) (by decide))) (cv_of hg wM_X12_131 wN_X12_thing wL_X12_X12_thing wK_X12_thing wI_X12 (by decide +kernel) ⟨Nat.le_of_ble_eq_true rfl, Nat.le_of_ble_eq_true rfl⟩) hK hP hD hS hA (va_recv hK hP (ci := 14) (q0 := 0) rfl rfl) rfl hl.1 rfl (Nat.le_of_ble_eq_true rfl) dX12_rows_370 ⟨Nat.le_of_ble_eq_true rfl, Nat.le_of_ble_eq_true rfl⟩ (fun r_2 u_3 H locs q_1 hP hD hS => ?_)
    rcases q_1 with ⟨rfl, rfl, f_4⟩ | ⟨t_5, rfl, rfl, f_6, f_7, f_8⟩ | ⟨rfl, rfl, f_9, f_10⟩ | ⟨t_11, rfl, rfl, f_12, f_13, f_14⟩
    · show _
      have hP : va_P (dC, dI) vwCl (rW g ty Y pa kp ks I tl ac 2 tw) H := hP
      have hD : va_D A (rW g ty Y pa kp ks I tl ac 2 tw) := hD
      refine lv_if_eq (tgt := 398) hx hb dX12_rows_373 (by decide) (fun _ => ?_) (fun c9 => absurd (by decide) c9) 
      refine lv_aload_n hx hb dX12_rows_398 rfl (lv_at hl 1 rfl) ?_
      refine cV_l (C := RX12) (n := 0) (rest := []) hx hb hml hown hg hT (c_X12_no l dC dI g ty H.size Y pa kp ks I tl ac 2 tw  ) (cv_of hg wM_X12_107 wN_X12_no wL_X12_X12_no wK_X12_no wI_X12 (by decide +kernel) ⟨Nat.le_of_ble_eq_true rfl, Nat.le_of_ble_eq_true rfl⟩) hK hP hD hS hA (va_recv hK hP (ci := 14) (q0 := 0) rfl rfl) rfl hl.1 rfl (Nat.le_of_ble_eq_true rfl) dX12_rows_399 ⟨Nat.le_of_ble_eq_true rfl, Nat.le_of_ble_eq_true rfl⟩ (fun r_16 u_17 H locs q_15 hP hD hS => ?_)
      obtain ⟨rfl, rfl⟩ := q_15
      have hP : va_P (dC, dI) vwCl (rW g ty Y pa kp ks I tl ac 2 1) H := hP
      have hD : va_D A (rW g ty Y pa kp ks I tl ac 2 1) := hD
      refine cr_l (wo := fun u : rY × (Nat → Int32) × (Nat → Int32) × (Nat → Int32) × Int32 × Int32 => rW g ty u.1 u.2.1 u.2.2.1 ks I u.2.2.2.1 ac u.2.2.2.2.1 u.2.2.2.2.2) ((Y, pa, kp, tl, 2, 1)) hx hb hr hlk hS hP hD ?_ dX12_rows_402
      exact ⟨0, Y, pa, kp, tl, 2, 1, rfl, rfl, (by exact ra_f (f := 2) rel hcnt htl (by decide))⟩
    · show _
      exact absurd f_6 (by assumption)
    · show _
      exact absurd f_9 (by assumption)
    · show _
      exact absurd f_12 (by assumption)
  · show _
    obtain ⟨n1t, n2t, n3t⟩ := rk_some rel g2 g3
    have hnet := (i32_pos n1t).2.1
    have tht := wf.1 _ _ g3
    have hl : lv_has ls 8 [(0, .ref (g 8)), (1, .int 5), (2, .int a0), (3, .int b0), (4, .int c0)] := hl
    refine lv_iload_n hx hb dX12_rows_0 rfl (lv_at hl 3 rfl) ?_
    refine lv_bipush (v := 7) hx hb dX12_rows_1 (by decide) ?_
    refine lv_iand hx hb dX12_rows_3 ?_
    refine lv_istore (lv' := [(5, .int (b0 &&& 7)), (0, .ref (g 8)), (1, .int 5), (2, .int a0), (3, .int b0), (4, .int c0)]) hx hb dX12_rows_4 hl (by decide) rfl (fun ls hl => ?_)
    refine lv_iload_n hx hb dX12_rows_6 rfl (lv_at hl 2 rfl) ?_
    refine lv_tableIn (off := 359) (tgt := 366) hx hb dX12_rows_7 (by decide) (by decide) (by decide) (by decide) ?_
    refine lv_aload_n hx hb dX12_rows_366 rfl (lv_at hl 1 rfl) ?_
    refine lv_iload_n hx hb dX12_rows_367 rfl (lv_at hl 3 rfl) ?_
    refine lv_bipush (v := 8) hx hb dX12_rows_368 (by decide) ?_
    refine cV_i (C := RX12) (n := 2) (rest := []) hx hb hml hown hg hT (c_X12_thing l dC dI g ty s.heap.size Y pa kp ks I tl ac wr tw ρ pl P a0 8 (by exact rel) (by exact wf) (by exact i32_in (by decide) (by decide))) (cv_of hg wM_X12_131 wN_X12_thing wL_X12_X12_thing wK_X12_thing wI_X12 (by decide +kernel) ⟨Nat.le_of_ble_eq_true rfl, Nat.le_of_ble_eq_true rfl⟩) hK hP hD hS hA (va_recv hK hP (ci := 14) (q0 := 0) rfl rfl) rfl hl.1 rfl (Nat.le_of_ble_eq_true rfl) dX12_rows_370 ⟨Nat.le_of_ble_eq_true rfl, Nat.le_of_ble_eq_true rfl⟩ (fun r_19 u_20 H locs q_18 hP hD hS => ?_)
    rcases q_18 with ⟨rfl, rfl, f_21⟩ | ⟨t_22, rfl, rfl, f_23, f_24, f_25⟩ | ⟨rfl, rfl, f_26, f_27⟩ | ⟨t_28, rfl, rfl, f_29, f_30, f_31⟩
    · show _
      exact absurd (by assumption) f_21
    · show _
      obtain rfl := Option.some.inj (g3.symm.trans f_24)
      have hP : va_P (dC, dI) vwCl (rW g ty Y pa kp ks I tl ac 3 tw) H := hP
      have hD : va_D A (rW g ty Y pa kp ks I tl ac 3 tw) := hD
      refine lv_if_eq (tgt := 398) hx hb dX12_rows_373 (by decide) (fun _ => ?_) (fun c9 => absurd (by decide) c9) 
      refine lv_aload_n hx hb dX12_rows_398 rfl (lv_at hl 1 rfl) ?_
      refine cV_l (C := RX12) (n := 0) (rest := []) hx hb hml hown hg hT (c_X12_no l dC dI g ty H.size Y pa kp ks I tl ac 3 tw  ) (cv_of hg wM_X12_107 wN_X12_no wL_X12_X12_no wK_X12_no wI_X12 (by decide +kernel) ⟨Nat.le_of_ble_eq_true rfl, Nat.le_of_ble_eq_true rfl⟩) hK hP hD hS hA (va_recv hK hP (ci := 14) (q0 := 0) rfl rfl) rfl hl.1 rfl (Nat.le_of_ble_eq_true rfl) dX12_rows_399 ⟨Nat.le_of_ble_eq_true rfl, Nat.le_of_ble_eq_true rfl⟩ (fun r_33 u_34 H locs q_32 hP hD hS => ?_)
      obtain ⟨rfl, rfl⟩ := q_32
      have hP : va_P (dC, dI) vwCl (rW g ty Y pa kp ks I tl ac 3 1) H := hP
      have hD : va_D A (rW g ty Y pa kp ks I tl ac 3 1) := hD
      refine cr_l (wo := fun u : rY × (Nat → Int32) × (Nat → Int32) × (Nat → Int32) × Int32 × Int32 => rW g ty u.1 u.2.1 u.2.2.1 ks I u.2.2.2.1 ac u.2.2.2.2.1 u.2.2.2.2.2) ((Y, pa, kp, tl, 3, 1)) hx hb hr hlk hS hP hD ?_ dX12_rows_402
      exact ⟨0, Y, pa, kp, tl, 3, 1, rfl, rfl, (by exact ra_f (f := 3) rel hcnt htl (by decide))⟩
    · show _
      exact absurd (g3.symm.trans f_27) (by simp)
    · show _
      obtain rfl := Option.some.inj (g3.symm.trans f_30); exact absurd (g4.symm.trans f_31) (by decide)
  · show _
    have hza0 := rk_none rel g2 g3
    have hl : lv_has ls 8 [(0, .ref (g 8)), (1, .int 5), (2, .int a0), (3, .int b0), (4, .int c0)] := hl
    refine lv_iload_n hx hb dX12_rows_0 rfl (lv_at hl 3 rfl) ?_
    refine lv_bipush (v := 7) hx hb dX12_rows_1 (by decide) ?_
    refine lv_iand hx hb dX12_rows_3 ?_
    refine lv_istore (lv' := [(5, .int (b0 &&& 7)), (0, .ref (g 8)), (1, .int 5), (2, .int a0), (3, .int b0), (4, .int c0)]) hx hb dX12_rows_4 hl (by decide) rfl (fun ls hl => ?_)
    refine lv_iload_n hx hb dX12_rows_6 rfl (lv_at hl 2 rfl) ?_
    refine lv_tableIn (off := 359) (tgt := 366) hx hb dX12_rows_7 (by decide) (by decide) (by decide) (by decide) ?_
    refine lv_aload_n hx hb dX12_rows_366 rfl (lv_at hl 1 rfl) ?_
    refine lv_iload_n hx hb dX12_rows_367 rfl (lv_at hl 3 rfl) ?_
    refine lv_bipush (v := 8) hx hb dX12_rows_368 (by decide) ?_
    refine cV_i (C := RX12) (n := 2) (rest := []) hx hb hml hown hg hT (c_X12_thing l dC dI g ty s.heap.size Y pa kp ks I tl ac wr tw ρ pl P a0 8 (by exact rel) (by exact wf) (by exact i32_in (by decide) (by decide))) (cv_of hg wM_X12_131 wN_X12_thing wL_X12_X12_thing wK_X12_thing wI_X12 (by decide +kernel) ⟨Nat.le_of_ble_eq_true rfl, Nat.le_of_ble_eq_true rfl⟩) hK hP hD hS hA (va_recv hK hP (ci := 14) (q0 := 0) rfl rfl) rfl hl.1 rfl (Nat.le_of_ble_eq_true rfl) dX12_rows_370 ⟨Nat.le_of_ble_eq_true rfl, Nat.le_of_ble_eq_true rfl⟩ (fun r_36 u_37 H locs q_35 hP hD hS => ?_)
    rcases q_35 with ⟨rfl, rfl, f_38⟩ | ⟨t_39, rfl, rfl, f_40, f_41, f_42⟩ | ⟨rfl, rfl, f_43, f_44⟩ | ⟨t_45, rfl, rfl, f_46, f_47, f_48⟩
    · show _
      exact absurd (by assumption) f_38
    · show _
      exact absurd (g3.symm.trans f_41) (by simp)
    · show _
      have hP : va_P (dC, dI) vwCl (rW g ty Y pa kp ks I tl ac wr tw) H := hP
      have hD : va_D A (rW g ty Y pa kp ks I tl ac wr tw) := hD
      refine lv_if_eq (tgt := 398) hx hb dX12_rows_373 (by decide) (fun c9 => absurd c9 (by decide)) (fun _ => ?_)
      refine lv_aload_n hx hb dX12_rows_376 rfl (lv_at hl 1 rfl) ?_
      refine lv_iload_n hx hb dX12_rows_377 rfl (lv_at hl 3 rfl) ?_
      refine cV_i (C := RX12) (n := 1) (rest := []) hx hb hml hown hg hT (c_X12_need l dC dI g ty H.size Y pa kp ks I tl ac wr tw a0 (by assumption)) (cv_of hg wM_X12_134 wN_X12_need wL_X12_X12_need wK_X12_need wI_X12 (by decide +kernel) ⟨Nat.le_of_ble_eq_true rfl, Nat.le_of_ble_eq_true rfl⟩) hK hP hD hS hA (va_recv hK hP (ci := 14) (q0 := 0) rfl rfl) rfl hl.1 rfl (Nat.le_of_ble_eq_true rfl) dX12_rows_378 ⟨Nat.le_of_ble_eq_true rfl, Nat.le_of_ble_eq_true rfl⟩ (fun r_50 u_51 H locs q_49 hP hD hS => ?_)
      rcases q_49 with ⟨rfl, rfl, f_52⟩ | ⟨rfl, rfl, f_53⟩
      · show _
        have hP : va_P (dC, dI) vwCl (rW g ty Y pa kp ks I tl ac 1 tw) H := hP
        have hD : va_D A (rW g ty Y pa kp ks I tl ac 1 tw) := hD
        refine lv_if_eq (tgt := 398) hx hb dX12_rows_381 (by decide) (fun _ => ?_) (fun c9 => absurd (by decide) c9) 
        refine lv_aload_n hx hb dX12_rows_398 rfl (lv_at hl 1 rfl) ?_
        refine cV_l (C := RX12) (n := 0) (rest := []) hx hb hml hown hg hT (c_X12_no l dC dI g ty H.size Y pa kp ks I tl ac 1 tw  ) (cv_of hg wM_X12_107 wN_X12_no wL_X12_X12_no wK_X12_no wI_X12 (by decide +kernel) ⟨Nat.le_of_ble_eq_true rfl, Nat.le_of_ble_eq_true rfl⟩) hK hP hD hS hA (va_recv hK hP (ci := 14) (q0 := 0) rfl rfl) rfl hl.1 rfl (Nat.le_of_ble_eq_true rfl) dX12_rows_399 ⟨Nat.le_of_ble_eq_true rfl, Nat.le_of_ble_eq_true rfl⟩ (fun r_55 u_56 H locs q_54 hP hD hS => ?_)
        obtain ⟨rfl, rfl⟩ := q_54
        have hP : va_P (dC, dI) vwCl (rW g ty Y pa kp ks I tl ac 1 1) H := hP
        have hD : va_D A (rW g ty Y pa kp ks I tl ac 1 1) := hD
        refine cr_l (wo := fun u : rY × (Nat → Int32) × (Nat → Int32) × (Nat → Int32) × Int32 × Int32 => rW g ty u.1 u.2.1 u.2.2.1 ks I u.2.2.2.1 ac u.2.2.2.2.1 u.2.2.2.2.2) ((Y, pa, kp, tl, 1, 1)) hx hb hr hlk hS hP hD ?_ dX12_rows_402
        exact ⟨0, Y, pa, kp, tl, 1, 1, rfl, rfl, (by exact ra_f (f := 1) rel hcnt htl (by decide))⟩
      · show _
        exact absurd (by assumption) f_53
    · show _
      exact absurd (g3.symm.trans f_47) (by simp)
  · show _
    obtain ⟨n1t, n2t, n3t⟩ := rk_some rel g2 g3
    have hnet := (i32_pos n1t).2.1
    have tht := wf.1 _ _ g3
    have kt := cIs_1 (ki_8 wf tht.1 tht.2 g4)
    have hvt := rv_shelf rel n1t n2t n3t kt g5
    have hl : lv_has ls 8 [(0, .ref (g 8)), (1, .int 5), (2, .int a0), (3, .int b0), (4, .int c0)] := hl
    refine lv_iload_n hx hb dX12_rows_0 rfl (lv_at hl 3 rfl) ?_
    refine lv_bipush (v := 7) hx hb dX12_rows_1 (by decide) ?_
    refine lv_iand hx hb dX12_rows_3 ?_
    refine lv_istore (lv' := [(5, .int (b0 &&& 7)), (0, .ref (g 8)), (1, .int 5), (2, .int a0), (3, .int b0), (4, .int c0)]) hx hb dX12_rows_4 hl (by decide) rfl (fun ls hl => ?_)
    refine lv_iload_n hx hb dX12_rows_6 rfl (lv_at hl 2 rfl) ?_
    refine lv_tableIn (off := 359) (tgt := 366) hx hb dX12_rows_7 (by decide) (by decide) (by decide) (by decide) ?_
    refine lv_aload_n hx hb dX12_rows_366 rfl (lv_at hl 1 rfl) ?_
    refine lv_iload_n hx hb dX12_rows_367 rfl (lv_at hl 3 rfl) ?_
    refine lv_bipush (v := 8) hx hb dX12_rows_368 (by decide) ?_
    refine cV_i (C := RX12) (n := 2) (rest := []) hx hb hml hown hg hT (c_X12_thing l dC dI g ty s.heap.size Y pa kp ks I tl ac wr tw ρ pl P a0 8 (by exact rel) (by exact wf) (by exact i32_in (by decide) (by decide))) (cv_of hg wM_X12_131 wN_X12_thing wL_X12_X12_thing wK_X12_thing wI_X12 (by decide +kernel) ⟨Nat.le_of_ble_eq_true rfl, Nat.le_of_ble_eq_true rfl⟩) hK hP hD hS hA (va_recv hK hP (ci := 14) (q0 := 0) rfl rfl) rfl hl.1 rfl (Nat.le_of_ble_eq_true rfl) dX12_rows_370 ⟨Nat.le_of_ble_eq_true rfl, Nat.le_of_ble_eq_true rfl⟩ (fun r_58 u_59 H locs q_57 hP hD hS => ?_)
    rcases q_57 with ⟨rfl, rfl, f_60⟩ | ⟨t_61, rfl, rfl, f_62, f_63, f_64⟩ | ⟨rfl, rfl, f_65, f_66⟩ | ⟨t_67, rfl, rfl, f_68, f_69, f_70⟩
    · show _
      exact absurd (by assumption) f_60
    · show _
      obtain rfl := Option.some.inj (g3.symm.trans f_63); exact absurd (g4.symm.trans f_64) (by decide)
    · show _
      exact absurd (g3.symm.trans f_66) (by simp)
    · show _
      obtain rfl := Option.some.inj (g3.symm.trans f_69)
      have hP : va_P (dC, dI) vwCl (rW g ty Y pa kp ks I tl ac wr tw) H := hP
      have hD : va_D A (rW g ty Y pa kp ks I tl ac wr tw) := hD
      refine lv_if_eq (tgt := 398) hx hb dX12_rows_373 (by decide) (fun c9 => absurd c9 (by decide)) (fun _ => ?_)
      refine lv_aload_n hx hb dX12_rows_376 rfl (lv_at hl 1 rfl) ?_
      refine lv_iload_n hx hb dX12_rows_377 rfl (lv_at hl 3 rfl) ?_
      refine cV_i (C := RX12) (n := 1) (rest := []) hx hb hml hown hg hT (c_X12_need l dC dI g ty H.size Y pa kp ks I tl ac wr tw a0 (by assumption)) (cv_of hg wM_X12_134 wN_X12_need wL_X12_X12_need wK_X12_need wI_X12 (by decide +kernel) ⟨Nat.le_of_ble_eq_true rfl, Nat.le_of_ble_eq_true rfl⟩) hK hP hD hS hA (va_recv hK hP (ci := 14) (q0 := 0) rfl rfl) rfl hl.1 rfl (Nat.le_of_ble_eq_true rfl) dX12_rows_378 ⟨Nat.le_of_ble_eq_true rfl, Nat.le_of_ble_eq_true rfl⟩ (fun r_72 u_73 H locs q_71 hP hD hS => ?_)
      rcases q_71 with ⟨rfl, rfl, f_74⟩ | ⟨rfl, rfl, f_75⟩
      · show _
        exact absurd f_74 (by assumption)
      · show _
        have hP : va_P (dC, dI) vwCl (rW g ty Y pa kp ks I tl ac wr tw) H := hP
        have hD : va_D A (rW g ty Y pa kp ks I tl ac wr tw) := hD
        refine lv_if_eq (tgt := 398) hx hb dX12_rows_381 (by decide) (fun c9 => absurd c9 (by decide)) (fun _ => ?_)
        refine lv_aload_n hx hb dX12_rows_384 rfl (lv_at hl 1 rfl) ?_
        refine lv_aload_n hx hb dX12_rows_385 rfl (lv_at hl 1 rfl) ?_
        refine va_get (D := (dC, dI)) (ci := 14) (v := .ref (g 9)) (C := RX12) (T := TX12) (N := 21) hx hb hg inG12 hown hK hP 0 rfl rfl 8 (by decide) (hg _ wF_X12_34) (fun _ h9 => h9) rfl dX12_rows_386 ?_
        refine lv_iload_n hx hb dX12_rows_389 rfl (lv_at hl 3 rfl) ?_
        refine va_iald hx hb hK hP 7 0 rfl rfl (by assumption) dX12_rows_390 ?_
        refine lv_iload_n hx hb dX12_rows_391 rfl (lv_at hl 4 rfl) ?_
        refine cV_i (C := RX12) (n := 2) (rest := []) hx hb hml hown hg hT (c_X12_indexN l dC dI g ty H.size Y pa kp ks I tl ac wr tw (P.2.2.2.2.2.1 y) (pa a0.toNatClampNeg) b0 (by exact hvt.1) (by exact hvt.2.1) (by exact hvt.2.2.1)) (cv_of hg wM_X12_137 wN_X12_index wL_X12_X12_index wK_X12_index wI_X12 (by decide +kernel) ⟨Nat.le_of_ble_eq_true rfl, Nat.le_of_ble_eq_true rfl⟩) hK hP hD hS hA (va_recv hK hP (ci := 14) (q0 := 0) rfl rfl) rfl hl.1 rfl (Nat.le_of_ble_eq_true rfl) dX12_rows_392 ⟨Nat.le_of_ble_eq_true rfl, Nat.le_of_ble_eq_true rfl⟩ (fun r_77 u_78 H locs q_76 hP hD hS => ?_)
        rcases q_76 with ⟨rfl, rfl, f_79⟩ | ⟨rfl, rfl, f_80⟩
        · show _
          have hP : va_P (dC, dI) vwCl (rW g ty Y pa kp ks I tl ac 2 tw) H := hP
          have hD : va_D A (rW g ty Y pa kp ks I tl ac 2 tw) := hD
          refine lv_if_ne (tgt := 403) hx hb dX12_rows_395 (by decide) (fun c9 => absurd (by decide) c9) (fun _ => ?_)
          refine lv_aload_n hx hb dX12_rows_398 rfl (lv_at hl 1 rfl) ?_
          refine cV_l (C := RX12) (n := 0) (rest := []) hx hb hml hown hg hT (c_X12_no l dC dI g ty H.size Y pa kp ks I tl ac 2 tw  ) (cv_of hg wM_X12_107 wN_X12_no wL_X12_X12_no wK_X12_no wI_X12 (by decide +kernel) ⟨Nat.le_of_ble_eq_true rfl, Nat.le_of_ble_eq_true rfl⟩) hK hP hD hS hA (va_recv hK hP (ci := 14) (q0 := 0) rfl rfl) rfl hl.1 rfl (Nat.le_of_ble_eq_true rfl) dX12_rows_399 ⟨Nat.le_of_ble_eq_true rfl, Nat.le_of_ble_eq_true rfl⟩ (fun r_82 u_83 H locs q_81 hP hD hS => ?_)
          obtain ⟨rfl, rfl⟩ := q_81
          have hP : va_P (dC, dI) vwCl (rW g ty Y pa kp ks I tl ac 2 1) H := hP
          have hD : va_D A (rW g ty Y pa kp ks I tl ac 2 1) := hD
          refine cr_l (wo := fun u : rY × (Nat → Int32) × (Nat → Int32) × (Nat → Int32) × Int32 × Int32 => rW g ty u.1 u.2.1 u.2.2.1 ks I u.2.2.2.1 ac u.2.2.2.2.1 u.2.2.2.2.2) ((Y, pa, kp, tl, 2, 1)) hx hb hr hlk hS hP hD ?_ dX12_rows_402
          exact ⟨0, Y, pa, kp, tl, 2, 1, rfl, rfl, (by exact ra_f (f := 2) rel hcnt htl (by decide))⟩
        · show _
          exact absurd f_80 (by assumption)
  · show _
    obtain ⟨n1t, n2t, n3t⟩ := rk_some rel g2 g3
    have hnet := (i32_pos n1t).2.1
    have tht := wf.1 _ _ g3
    have kt := cIs_1 (ki_8 wf tht.1 tht.2 g4)
    have hvt := rv_shelf rel n1t n2t n3t kt g5
    have hl : lv_has ls 8 [(0, .ref (g 8)), (1, .int 5), (2, .int a0), (3, .int b0), (4, .int c0)] := hl
    refine lv_iload_n hx hb dX12_rows_0 rfl (lv_at hl 3 rfl) ?_
    refine lv_bipush (v := 7) hx hb dX12_rows_1 (by decide) ?_
    refine lv_iand hx hb dX12_rows_3 ?_
    refine lv_istore (lv' := [(5, .int (b0 &&& 7)), (0, .ref (g 8)), (1, .int 5), (2, .int a0), (3, .int b0), (4, .int c0)]) hx hb dX12_rows_4 hl (by decide) rfl (fun ls hl => ?_)
    refine lv_iload_n hx hb dX12_rows_6 rfl (lv_at hl 2 rfl) ?_
    refine lv_tableIn (off := 359) (tgt := 366) hx hb dX12_rows_7 (by decide) (by decide) (by decide) (by decide) ?_
    refine lv_aload_n hx hb dX12_rows_366 rfl (lv_at hl 1 rfl) ?_
    refine lv_iload_n hx hb dX12_rows_367 rfl (lv_at hl 3 rfl) ?_
    refine lv_bipush (v := 8) hx hb dX12_rows_368 (by decide) ?_
    refine cV_i (C := RX12) (n := 2) (rest := []) hx hb hml hown hg hT (c_X12_thing l dC dI g ty s.heap.size Y pa kp ks I tl ac wr tw ρ pl P a0 8 (by exact rel) (by exact wf) (by exact i32_in (by decide) (by decide))) (cv_of hg wM_X12_131 wN_X12_thing wL_X12_X12_thing wK_X12_thing wI_X12 (by decide +kernel) ⟨Nat.le_of_ble_eq_true rfl, Nat.le_of_ble_eq_true rfl⟩) hK hP hD hS hA (va_recv hK hP (ci := 14) (q0 := 0) rfl rfl) rfl hl.1 rfl (Nat.le_of_ble_eq_true rfl) dX12_rows_370 ⟨Nat.le_of_ble_eq_true rfl, Nat.le_of_ble_eq_true rfl⟩ (fun r_85 u_86 H locs q_84 hP hD hS => ?_)
    rcases q_84 with ⟨rfl, rfl, f_87⟩ | ⟨t_88, rfl, rfl, f_89, f_90, f_91⟩ | ⟨rfl, rfl, f_92, f_93⟩ | ⟨t_94, rfl, rfl, f_95, f_96, f_97⟩
    · show _
      exact absurd (by assumption) f_87
    · show _
      obtain rfl := Option.some.inj (g3.symm.trans f_90); exact absurd (g4.symm.trans f_91) (by decide)
    · show _
      exact absurd (g3.symm.trans f_93) (by simp)
    · show _
      obtain rfl := Option.some.inj (g3.symm.trans f_96)
      have hP : va_P (dC, dI) vwCl (rW g ty Y pa kp ks I tl ac wr tw) H := hP
      have hD : va_D A (rW g ty Y pa kp ks I tl ac wr tw) := hD
      refine lv_if_eq (tgt := 398) hx hb dX12_rows_373 (by decide) (fun c9 => absurd c9 (by decide)) (fun _ => ?_)
      refine lv_aload_n hx hb dX12_rows_376 rfl (lv_at hl 1 rfl) ?_
      refine lv_iload_n hx hb dX12_rows_377 rfl (lv_at hl 3 rfl) ?_
      refine cV_i (C := RX12) (n := 1) (rest := []) hx hb hml hown hg hT (c_X12_need l dC dI g ty H.size Y pa kp ks I tl ac wr tw a0 (by assumption)) (cv_of hg wM_X12_134 wN_X12_need wL_X12_X12_need wK_X12_need wI_X12 (by decide +kernel) ⟨Nat.le_of_ble_eq_true rfl, Nat.le_of_ble_eq_true rfl⟩) hK hP hD hS hA (va_recv hK hP (ci := 14) (q0 := 0) rfl rfl) rfl hl.1 rfl (Nat.le_of_ble_eq_true rfl) dX12_rows_378 ⟨Nat.le_of_ble_eq_true rfl, Nat.le_of_ble_eq_true rfl⟩ (fun r_99 u_100 H locs q_98 hP hD hS => ?_)
      rcases q_98 with ⟨rfl, rfl, f_101⟩ | ⟨rfl, rfl, f_102⟩
      · show _
        exact absurd f_101 (by assumption)
      · show _
        have hP : va_P (dC, dI) vwCl (rW g ty Y pa kp ks I tl ac wr tw) H := hP
        have hD : va_D A (rW g ty Y pa kp ks I tl ac wr tw) := hD
        refine lv_if_eq (tgt := 398) hx hb dX12_rows_381 (by decide) (fun c9 => absurd c9 (by decide)) (fun _ => ?_)
        refine lv_aload_n hx hb dX12_rows_384 rfl (lv_at hl 1 rfl) ?_
        refine lv_aload_n hx hb dX12_rows_385 rfl (lv_at hl 1 rfl) ?_
        refine va_get (D := (dC, dI)) (ci := 14) (v := .ref (g 9)) (C := RX12) (T := TX12) (N := 21) hx hb hg inG12 hown hK hP 0 rfl rfl 8 (by decide) (hg _ wF_X12_34) (fun _ h9 => h9) rfl dX12_rows_386 ?_
        refine lv_iload_n hx hb dX12_rows_389 rfl (lv_at hl 3 rfl) ?_
        refine va_iald hx hb hK hP 7 0 rfl rfl (by assumption) dX12_rows_390 ?_
        refine lv_iload_n hx hb dX12_rows_391 rfl (lv_at hl 4 rfl) ?_
        refine cV_i (C := RX12) (n := 2) (rest := []) hx hb hml hown hg hT (c_X12_indexN l dC dI g ty H.size Y pa kp ks I tl ac wr tw (P.2.2.2.2.2.1 y) (pa a0.toNatClampNeg) b0 (by exact hvt.1) (by exact hvt.2.1) (by exact hvt.2.2.1)) (cv_of hg wM_X12_137 wN_X12_index wL_X12_X12_index wK_X12_index wI_X12 (by decide +kernel) ⟨Nat.le_of_ble_eq_true rfl, Nat.le_of_ble_eq_true rfl⟩) hK hP hD hS hA (va_recv hK hP (ci := 14) (q0 := 0) rfl rfl) rfl hl.1 rfl (Nat.le_of_ble_eq_true rfl) dX12_rows_392 ⟨Nat.le_of_ble_eq_true rfl, Nat.le_of_ble_eq_true rfl⟩ (fun r_104 u_105 H locs q_103 hP hD hS => ?_)
        rcases q_103 with ⟨rfl, rfl, f_106⟩ | ⟨rfl, rfl, f_107⟩
        · show _
          exact absurd (by assumption) f_106
        · show _
          have hP : va_P (dC, dI) vwCl (rW g ty Y pa kp ks I tl ac wr tw) H := hP
          have hD : va_D A (rW g ty Y pa kp ks I tl ac wr tw) := hD
          refine lv_if_ne (tgt := 403) hx hb dX12_rows_395 (by decide) (fun _ => ?_) (fun c9 => absurd c9 (by decide)) 
          refine lv_aload_n hx hb dX12_rows_403 rfl (lv_at hl 1 rfl) ?_
          refine lv_aload_n hx hb dX12_rows_404 rfl (lv_at hl 1 rfl) ?_
          refine va_get (D := (dC, dI)) (ci := 14) (v := .ref (g 9)) (C := RX12) (T := TX12) (N := 21) hx hb hg inG12 hown hK hP 0 rfl rfl 8 (by decide) (hg _ wF_X12_34) (fun _ h9 => h9) rfl dX12_rows_405 ?_
          refine lv_iload_n hx hb dX12_rows_408 rfl (lv_at hl 3 rfl) ?_
          refine va_iald hx hb hK hP 7 0 rfl rfl (by assumption) dX12_rows_409 ?_
          refine lv_iload_n hx hb dX12_rows_410 rfl (lv_at hl 4 rfl) ?_
          refine cV_l (C := RX12) (n := 2) (rest := []) hx hb hml hown hg hT (c_X12_cell l dC dI g ty H.size Y pa kp ks I tl ac wr tw (pa a0.toNatClampNeg) b0 (by exact hvt.1) (by exact (hvt.2.2.2 _ (by assumption)).1)) (cv_of hg wM_X12_140 wN_X12_cell wL_X12_X12_cell wK_X12_cell wI_X12 (by decide +kernel) ⟨Nat.le_of_ble_eq_true rfl, Nat.le_of_ble_eq_true rfl⟩) hK hP hD hS hA (va_recv hK hP (ci := 14) (q0 := 0) rfl rfl) rfl hl.1 rfl (Nat.le_of_ble_eq_true rfl) dX12_rows_411 ⟨Nat.le_of_ble_eq_true rfl, Nat.le_of_ble_eq_true rfl⟩ (fun r_109 u_110 H locs q_108 hP hD hS => ?_)
          obtain rfl := q_108
          have hP : va_P (dC, dI) vwCl (rW g ty Y pa kp ks I tl ac wr tw) H := hP
          have hD : va_D A (rW g ty Y pa kp ks I tl ac wr tw) := hD
          refine lv_l2i (v := ((Y.2.2.2.2.2.1 (Y.2.1 (pa a0.toNatClampNeg).toNatClampNeg + b0).toNatClampNeg).toInt32)) hx hb dX12_rows_414 rfl ?_
          refine lv_topi (fun x9 ex90 => ?_)
          have ex9 : x9 = ((Y.2.2.2.2.2.1 (Y.2.1 (pa a0.toNatClampNeg).toNatClampNeg + b0).toNatClampNeg).toInt32) := ex90
          have hl9 := (hvt.2.2.2 _ f_107).2
          have hx9 := ll_none hl9 g7
          rw [← ex9] at hx9
          refine lv_istore (lv' := [(6, .int x9), (5, .int (b0 &&& 7)), (0, .ref (g 8)), (1, .int 5), (2, .int a0), (3, .int b0), (4, .int c0)]) hx hb dX12_rows_415 hl (by decide) rfl (fun ls hl => ?_)
          refine lv_iload hx hb dX12_rows_417 (lv_at hl 0 rfl) ?_
          refine lv_if_ne (tgt := 433) hx hb dX12_rows_419 (by decide) (fun c9 => absurd hx9 c9) (fun _ => ?_)
          refine lv_aload_n hx hb dX12_rows_422 rfl (lv_at hl 2 rfl) ?_
          refine lv_iconst (v := 1) hx hb dX12_rows_423 (by decide) ?_
          refine cV_i (C := RX12) (n := 1) (rest := []) hx hb hml hown hg hT (c_X12_fails l dC dI g ty H.size Y pa kp ks I tl ac wr tw 1 ) (cv_of hg wM_X12_79 wN_X12_fails wL_X12_X12_fails wK_X12_fails wI_X12 (by decide +kernel) ⟨Nat.le_of_ble_eq_true rfl, Nat.le_of_ble_eq_true rfl⟩) hK hP hD hS hA (va_recv hK hP (ci := 14) (q0 := 0) rfl rfl) rfl hl.1 rfl (Nat.le_of_ble_eq_true rfl) dX12_rows_424 ⟨Nat.le_of_ble_eq_true rfl, Nat.le_of_ble_eq_true rfl⟩ (fun r_112 u_113 H locs q_111 hP hD hS => ?_)
          obtain ⟨rfl, rfl⟩ := q_111
          have hP : va_P (dC, dI) vwCl (rW g ty Y pa kp ks I tl ac 1 tw) H := hP
          have hD : va_D A (rW g ty Y pa kp ks I tl ac 1 tw) := hD
          refine lv_pop hx hb dX12_rows_427 rfl ?_
          refine lv_aload_n hx hb dX12_rows_428 rfl (lv_at hl 2 rfl) ?_
          refine cV_l (C := RX12) (n := 0) (rest := []) hx hb hml hown hg hT (c_X12_no l dC dI g ty H.size Y pa kp ks I tl ac 1 tw  ) (cv_of hg wM_X12_107 wN_X12_no wL_X12_X12_no wK_X12_no wI_X12 (by decide +kernel) ⟨Nat.le_of_ble_eq_true rfl, Nat.le_of_ble_eq_true rfl⟩) hK hP hD hS hA (va_recv hK hP (ci := 14) (q0 := 0) rfl rfl) rfl hl.1 rfl (Nat.le_of_ble_eq_true rfl) dX12_rows_429 ⟨Nat.le_of_ble_eq_true rfl, Nat.le_of_ble_eq_true rfl⟩ (fun r_115 u_116 H locs q_114 hP hD hS => ?_)
          obtain ⟨rfl, rfl⟩ := q_114
          have hP : va_P (dC, dI) vwCl (rW g ty Y pa kp ks I tl ac 1 1) H := hP
          have hD : va_D A (rW g ty Y pa kp ks I tl ac 1 1) := hD
          refine cr_l (wo := fun u : rY × (Nat → Int32) × (Nat → Int32) × (Nat → Int32) × Int32 × Int32 => rW g ty u.1 u.2.1 u.2.2.1 ks I u.2.2.2.1 ac u.2.2.2.2.1 u.2.2.2.2.2) ((Y, pa, kp, tl, 1, 1)) hx hb hr hlk hS hP hD ?_ dX12_rows_432
          exact ⟨0, Y, pa, kp, tl, 1, 1, rfl, rfl, (by exact ra_f (f := 1) rel hcnt htl (by decide))⟩
  · show _
    obtain ⟨n1t, n2t, n3t⟩ := rk_some rel g2 g3
    have hnet := (i32_pos n1t).2.1
    have tht := wf.1 _ _ g3
    have kt := cIs_1 (ki_8 wf tht.1 tht.2 g4)
    have hvt := rv_shelf rel n1t n2t n3t kt g5
    have hl : lv_has ls 8 [(0, .ref (g 8)), (1, .int 5), (2, .int a0), (3, .int b0), (4, .int c0)] := hl
    refine lv_iload_n hx hb dX12_rows_0 rfl (lv_at hl 3 rfl) ?_
    refine lv_bipush (v := 7) hx hb dX12_rows_1 (by decide) ?_
    refine lv_iand hx hb dX12_rows_3 ?_
    refine lv_istore (lv' := [(5, .int (b0 &&& 7)), (0, .ref (g 8)), (1, .int 5), (2, .int a0), (3, .int b0), (4, .int c0)]) hx hb dX12_rows_4 hl (by decide) rfl (fun ls hl => ?_)
    refine lv_iload_n hx hb dX12_rows_6 rfl (lv_at hl 2 rfl) ?_
    refine lv_tableIn (off := 359) (tgt := 366) hx hb dX12_rows_7 (by decide) (by decide) (by decide) (by decide) ?_
    refine lv_aload_n hx hb dX12_rows_366 rfl (lv_at hl 1 rfl) ?_
    refine lv_iload_n hx hb dX12_rows_367 rfl (lv_at hl 3 rfl) ?_
    refine lv_bipush (v := 8) hx hb dX12_rows_368 (by decide) ?_
    refine cV_i (C := RX12) (n := 2) (rest := []) hx hb hml hown hg hT (c_X12_thing l dC dI g ty s.heap.size Y pa kp ks I tl ac wr tw ρ pl P a0 8 (by exact rel) (by exact wf) (by exact i32_in (by decide) (by decide))) (cv_of hg wM_X12_131 wN_X12_thing wL_X12_X12_thing wK_X12_thing wI_X12 (by decide +kernel) ⟨Nat.le_of_ble_eq_true rfl, Nat.le_of_ble_eq_true rfl⟩) hK hP hD hS hA (va_recv hK hP (ci := 14) (q0 := 0) rfl rfl) rfl hl.1 rfl (Nat.le_of_ble_eq_true rfl) dX12_rows_370 ⟨Nat.le_of_ble_eq_true rfl, Nat.le_of_ble_eq_true rfl⟩ (fun r_118 u_119 H locs q_117 hP hD hS => ?_)
    rcases q_117 with ⟨rfl, rfl, f_120⟩ | ⟨t_121, rfl, rfl, f_122, f_123, f_124⟩ | ⟨rfl, rfl, f_125, f_126⟩ | ⟨t_127, rfl, rfl, f_128, f_129, f_130⟩
    · show _
      exact absurd (by assumption) f_120
    · show _
      obtain rfl := Option.some.inj (g3.symm.trans f_123); exact absurd (g4.symm.trans f_124) (by decide)
    · show _
      exact absurd (g3.symm.trans f_126) (by simp)
    · show _
      obtain rfl := Option.some.inj (g3.symm.trans f_129)
      have hP : va_P (dC, dI) vwCl (rW g ty Y pa kp ks I tl ac wr tw) H := hP
      have hD : va_D A (rW g ty Y pa kp ks I tl ac wr tw) := hD
      refine lv_if_eq (tgt := 398) hx hb dX12_rows_373 (by decide) (fun c9 => absurd c9 (by decide)) (fun _ => ?_)
      refine lv_aload_n hx hb dX12_rows_376 rfl (lv_at hl 1 rfl) ?_
      refine lv_iload_n hx hb dX12_rows_377 rfl (lv_at hl 3 rfl) ?_
      refine cV_i (C := RX12) (n := 1) (rest := []) hx hb hml hown hg hT (c_X12_need l dC dI g ty H.size Y pa kp ks I tl ac wr tw a0 (by assumption)) (cv_of hg wM_X12_134 wN_X12_need wL_X12_X12_need wK_X12_need wI_X12 (by decide +kernel) ⟨Nat.le_of_ble_eq_true rfl, Nat.le_of_ble_eq_true rfl⟩) hK hP hD hS hA (va_recv hK hP (ci := 14) (q0 := 0) rfl rfl) rfl hl.1 rfl (Nat.le_of_ble_eq_true rfl) dX12_rows_378 ⟨Nat.le_of_ble_eq_true rfl, Nat.le_of_ble_eq_true rfl⟩ (fun r_132 u_133 H locs q_131 hP hD hS => ?_)
      rcases q_131 with ⟨rfl, rfl, f_134⟩ | ⟨rfl, rfl, f_135⟩
      · show _
        exact absurd f_134 (by assumption)
      · show _
        have hP : va_P (dC, dI) vwCl (rW g ty Y pa kp ks I tl ac wr tw) H := hP
        have hD : va_D A (rW g ty Y pa kp ks I tl ac wr tw) := hD
        refine lv_if_eq (tgt := 398) hx hb dX12_rows_381 (by decide) (fun c9 => absurd c9 (by decide)) (fun _ => ?_)
        refine lv_aload_n hx hb dX12_rows_384 rfl (lv_at hl 1 rfl) ?_
        refine lv_aload_n hx hb dX12_rows_385 rfl (lv_at hl 1 rfl) ?_
        refine va_get (D := (dC, dI)) (ci := 14) (v := .ref (g 9)) (C := RX12) (T := TX12) (N := 21) hx hb hg inG12 hown hK hP 0 rfl rfl 8 (by decide) (hg _ wF_X12_34) (fun _ h9 => h9) rfl dX12_rows_386 ?_
        refine lv_iload_n hx hb dX12_rows_389 rfl (lv_at hl 3 rfl) ?_
        refine va_iald hx hb hK hP 7 0 rfl rfl (by assumption) dX12_rows_390 ?_
        refine lv_iload_n hx hb dX12_rows_391 rfl (lv_at hl 4 rfl) ?_
        refine cV_i (C := RX12) (n := 2) (rest := []) hx hb hml hown hg hT (c_X12_indexN l dC dI g ty H.size Y pa kp ks I tl ac wr tw (P.2.2.2.2.2.1 y) (pa a0.toNatClampNeg) b0 (by exact hvt.1) (by exact hvt.2.1) (by exact hvt.2.2.1)) (cv_of hg wM_X12_137 wN_X12_index wL_X12_X12_index wK_X12_index wI_X12 (by decide +kernel) ⟨Nat.le_of_ble_eq_true rfl, Nat.le_of_ble_eq_true rfl⟩) hK hP hD hS hA (va_recv hK hP (ci := 14) (q0 := 0) rfl rfl) rfl hl.1 rfl (Nat.le_of_ble_eq_true rfl) dX12_rows_392 ⟨Nat.le_of_ble_eq_true rfl, Nat.le_of_ble_eq_true rfl⟩ (fun r_137 u_138 H locs q_136 hP hD hS => ?_)
        rcases q_136 with ⟨rfl, rfl, f_139⟩ | ⟨rfl, rfl, f_140⟩
        · show _
          exact absurd (by assumption) f_139
        · show _
          have hP : va_P (dC, dI) vwCl (rW g ty Y pa kp ks I tl ac wr tw) H := hP
          have hD : va_D A (rW g ty Y pa kp ks I tl ac wr tw) := hD
          refine lv_if_ne (tgt := 403) hx hb dX12_rows_395 (by decide) (fun _ => ?_) (fun c9 => absurd c9 (by decide)) 
          refine lv_aload_n hx hb dX12_rows_403 rfl (lv_at hl 1 rfl) ?_
          refine lv_aload_n hx hb dX12_rows_404 rfl (lv_at hl 1 rfl) ?_
          refine va_get (D := (dC, dI)) (ci := 14) (v := .ref (g 9)) (C := RX12) (T := TX12) (N := 21) hx hb hg inG12 hown hK hP 0 rfl rfl 8 (by decide) (hg _ wF_X12_34) (fun _ h9 => h9) rfl dX12_rows_405 ?_
          refine lv_iload_n hx hb dX12_rows_408 rfl (lv_at hl 3 rfl) ?_
          refine va_iald hx hb hK hP 7 0 rfl rfl (by assumption) dX12_rows_409 ?_
          refine lv_iload_n hx hb dX12_rows_410 rfl (lv_at hl 4 rfl) ?_
          refine cV_l (C := RX12) (n := 2) (rest := []) hx hb hml hown hg hT (c_X12_cell l dC dI g ty H.size Y pa kp ks I tl ac wr tw (pa a0.toNatClampNeg) b0 (by exact hvt.1) (by exact (hvt.2.2.2 _ (by assumption)).1)) (cv_of hg wM_X12_140 wN_X12_cell wL_X12_X12_cell wK_X12_cell wI_X12 (by decide +kernel) ⟨Nat.le_of_ble_eq_true rfl, Nat.le_of_ble_eq_true rfl⟩) hK hP hD hS hA (va_recv hK hP (ci := 14) (q0 := 0) rfl rfl) rfl hl.1 rfl (Nat.le_of_ble_eq_true rfl) dX12_rows_411 ⟨Nat.le_of_ble_eq_true rfl, Nat.le_of_ble_eq_true rfl⟩ (fun r_142 u_143 H locs q_141 hP hD hS => ?_)
          obtain rfl := q_141
          have hP : va_P (dC, dI) vwCl (rW g ty Y pa kp ks I tl ac wr tw) H := hP
          have hD : va_D A (rW g ty Y pa kp ks I tl ac wr tw) := hD
          refine lv_l2i (v := ((Y.2.2.2.2.2.1 (Y.2.1 (pa a0.toNatClampNeg).toNatClampNeg + b0).toNatClampNeg).toInt32)) hx hb dX12_rows_414 rfl ?_
          refine lv_topi (fun x9 ex90 => ?_)
          have ex9 : x9 = ((Y.2.2.2.2.2.1 (Y.2.1 (pa a0.toNatClampNeg).toNatClampNeg + b0).toNatClampNeg).toInt32) := ex90
          have hl9 := (hvt.2.2.2 _ f_140).2
          have hx9 := ll_some hl9 g7
          rw [← ex9] at hx9
          have hm9 := wf.2.2.2.2.1 _ _ _ (wf_arr wf tht.1 kt g5).1 (wf_arr wf tht.1 kt g5).2 g7
          have ko9 := kc_8 wf tht.1 tht.2 f_130 g5 g7
          have kq := cIs_0 (ki_row0 wf hm9.1 hm9.2 ko9)
          have hvq := rv_row rel hx9.1 hx9.2.1 hx9.2.2 kq g8
          have hne9 := (i32_pos hx9.1).2.1
          refine lv_istore (lv' := [(6, .int x9), (5, .int (b0 &&& 7)), (0, .ref (g 8)), (1, .int 5), (2, .int a0), (3, .int b0), (4, .int c0)]) hx hb dX12_rows_415 hl (by decide) rfl (fun ls hl => ?_)
          refine lv_iload hx hb dX12_rows_417 (lv_at hl 0 rfl) ?_
          refine lv_if_ne (tgt := 433) hx hb dX12_rows_419 (by decide) (fun _ => ?_) (fun c9 => absurd c9 hne9)
          refine lv_aload_n hx hb dX12_rows_433 rfl (lv_at hl 2 rfl) ?_
          refine lv_iload hx hb dX12_rows_434 (lv_at hl 0 rfl) ?_
          refine lv_iload hx hb dX12_rows_436 (lv_at hl 6 rfl) ?_
          refine cV_i (C := RX12) (n := 2) (rest := []) hx hb hml hown hg hT (c_X12_indexN l dC dI g ty H.size Y pa kp ks I tl ac wr tw (P.2.2.2.2.2.1 z) x9 c0 (by exact hvq.1) (by exact hvq.2.1) (by exact hvq.2.2.1)) (cv_of hg wM_X12_137 wN_X12_index wL_X12_X12_index wK_X12_index wI_X12 (by decide +kernel) ⟨Nat.le_of_ble_eq_true rfl, Nat.le_of_ble_eq_true rfl⟩) hK hP hD hS hA (va_recv hK hP (ci := 14) (q0 := 0) rfl rfl) rfl hl.1 rfl (Nat.le_of_ble_eq_true rfl) dX12_rows_438 ⟨Nat.le_of_ble_eq_true rfl, Nat.le_of_ble_eq_true rfl⟩ (fun r_145 u_146 H locs q_144 hP hD hS => ?_)
          rcases q_144 with ⟨rfl, rfl, f_147⟩ | ⟨rfl, rfl, f_148⟩
          · show _
            have hP : va_P (dC, dI) vwCl (rW g ty Y pa kp ks I tl ac 2 tw) H := hP
            have hD : va_D A (rW g ty Y pa kp ks I tl ac 2 tw) := hD
            refine lv_if_ne (tgt := 449) hx hb dX12_rows_441 (by decide) (fun c9 => absurd (by decide) c9) (fun _ => ?_)
            refine lv_aload_n hx hb dX12_rows_444 rfl (lv_at hl 2 rfl) ?_
            refine cV_l (C := RX12) (n := 0) (rest := []) hx hb hml hown hg hT (c_X12_no l dC dI g ty H.size Y pa kp ks I tl ac 2 tw  ) (cv_of hg wM_X12_107 wN_X12_no wL_X12_X12_no wK_X12_no wI_X12 (by decide +kernel) ⟨Nat.le_of_ble_eq_true rfl, Nat.le_of_ble_eq_true rfl⟩) hK hP hD hS hA (va_recv hK hP (ci := 14) (q0 := 0) rfl rfl) rfl hl.1 rfl (Nat.le_of_ble_eq_true rfl) dX12_rows_445 ⟨Nat.le_of_ble_eq_true rfl, Nat.le_of_ble_eq_true rfl⟩ (fun r_150 u_151 H locs q_149 hP hD hS => ?_)
            obtain ⟨rfl, rfl⟩ := q_149
            have hP : va_P (dC, dI) vwCl (rW g ty Y pa kp ks I tl ac 2 1) H := hP
            have hD : va_D A (rW g ty Y pa kp ks I tl ac 2 1) := hD
            refine cr_l (wo := fun u : rY × (Nat → Int32) × (Nat → Int32) × (Nat → Int32) × Int32 × Int32 => rW g ty u.1 u.2.1 u.2.2.1 ks I u.2.2.2.1 ac u.2.2.2.2.1 u.2.2.2.2.2) ((Y, pa, kp, tl, 2, 1)) hx hb hr hlk hS hP hD ?_ dX12_rows_448
            exact ⟨0, Y, pa, kp, tl, 2, 1, rfl, rfl, (by exact ra_f (f := 2) rel hcnt htl (by decide))⟩
          · show _
            exact absurd f_148 (by assumption)
  · show _
    obtain ⟨n1t, n2t, n3t⟩ := rk_some rel g2 g3
    have hnet := (i32_pos n1t).2.1
    have tht := wf.1 _ _ g3
    have kt := cIs_1 (ki_8 wf tht.1 tht.2 g4)
    have hvt := rv_shelf rel n1t n2t n3t kt g5
    have hl : lv_has ls 8 [(0, .ref (g 8)), (1, .int 5), (2, .int a0), (3, .int b0), (4, .int c0)] := hl
    refine lv_iload_n hx hb dX12_rows_0 rfl (lv_at hl 3 rfl) ?_
    refine lv_bipush (v := 7) hx hb dX12_rows_1 (by decide) ?_
    refine lv_iand hx hb dX12_rows_3 ?_
    refine lv_istore (lv' := [(5, .int (b0 &&& 7)), (0, .ref (g 8)), (1, .int 5), (2, .int a0), (3, .int b0), (4, .int c0)]) hx hb dX12_rows_4 hl (by decide) rfl (fun ls hl => ?_)
    refine lv_iload_n hx hb dX12_rows_6 rfl (lv_at hl 2 rfl) ?_
    refine lv_tableIn (off := 359) (tgt := 366) hx hb dX12_rows_7 (by decide) (by decide) (by decide) (by decide) ?_
    refine lv_aload_n hx hb dX12_rows_366 rfl (lv_at hl 1 rfl) ?_
    refine lv_iload_n hx hb dX12_rows_367 rfl (lv_at hl 3 rfl) ?_
    refine lv_bipush (v := 8) hx hb dX12_rows_368 (by decide) ?_
    refine cV_i (C := RX12) (n := 2) (rest := []) hx hb hml hown hg hT (c_X12_thing l dC dI g ty s.heap.size Y pa kp ks I tl ac wr tw ρ pl P a0 8 (by exact rel) (by exact wf) (by exact i32_in (by decide) (by decide))) (cv_of hg wM_X12_131 wN_X12_thing wL_X12_X12_thing wK_X12_thing wI_X12 (by decide +kernel) ⟨Nat.le_of_ble_eq_true rfl, Nat.le_of_ble_eq_true rfl⟩) hK hP hD hS hA (va_recv hK hP (ci := 14) (q0 := 0) rfl rfl) rfl hl.1 rfl (Nat.le_of_ble_eq_true rfl) dX12_rows_370 ⟨Nat.le_of_ble_eq_true rfl, Nat.le_of_ble_eq_true rfl⟩ (fun r_153 u_154 H locs q_152 hP hD hS => ?_)
    rcases q_152 with ⟨rfl, rfl, f_155⟩ | ⟨t_156, rfl, rfl, f_157, f_158, f_159⟩ | ⟨rfl, rfl, f_160, f_161⟩ | ⟨t_162, rfl, rfl, f_163, f_164, f_165⟩
    · show _
      exact absurd (by assumption) f_155
    · show _
      obtain rfl := Option.some.inj (g3.symm.trans f_158); exact absurd (g4.symm.trans f_159) (by decide)
    · show _
      exact absurd (g3.symm.trans f_161) (by simp)
    · show _
      obtain rfl := Option.some.inj (g3.symm.trans f_164)
      have hP : va_P (dC, dI) vwCl (rW g ty Y pa kp ks I tl ac wr tw) H := hP
      have hD : va_D A (rW g ty Y pa kp ks I tl ac wr tw) := hD
      refine lv_if_eq (tgt := 398) hx hb dX12_rows_373 (by decide) (fun c9 => absurd c9 (by decide)) (fun _ => ?_)
      refine lv_aload_n hx hb dX12_rows_376 rfl (lv_at hl 1 rfl) ?_
      refine lv_iload_n hx hb dX12_rows_377 rfl (lv_at hl 3 rfl) ?_
      refine cV_i (C := RX12) (n := 1) (rest := []) hx hb hml hown hg hT (c_X12_need l dC dI g ty H.size Y pa kp ks I tl ac wr tw a0 (by assumption)) (cv_of hg wM_X12_134 wN_X12_need wL_X12_X12_need wK_X12_need wI_X12 (by decide +kernel) ⟨Nat.le_of_ble_eq_true rfl, Nat.le_of_ble_eq_true rfl⟩) hK hP hD hS hA (va_recv hK hP (ci := 14) (q0 := 0) rfl rfl) rfl hl.1 rfl (Nat.le_of_ble_eq_true rfl) dX12_rows_378 ⟨Nat.le_of_ble_eq_true rfl, Nat.le_of_ble_eq_true rfl⟩ (fun r_167 u_168 H locs q_166 hP hD hS => ?_)
      rcases q_166 with ⟨rfl, rfl, f_169⟩ | ⟨rfl, rfl, f_170⟩
      · show _
        exact absurd f_169 (by assumption)
      · show _
        have hP : va_P (dC, dI) vwCl (rW g ty Y pa kp ks I tl ac wr tw) H := hP
        have hD : va_D A (rW g ty Y pa kp ks I tl ac wr tw) := hD
        refine lv_if_eq (tgt := 398) hx hb dX12_rows_381 (by decide) (fun c9 => absurd c9 (by decide)) (fun _ => ?_)
        refine lv_aload_n hx hb dX12_rows_384 rfl (lv_at hl 1 rfl) ?_
        refine lv_aload_n hx hb dX12_rows_385 rfl (lv_at hl 1 rfl) ?_
        refine va_get (D := (dC, dI)) (ci := 14) (v := .ref (g 9)) (C := RX12) (T := TX12) (N := 21) hx hb hg inG12 hown hK hP 0 rfl rfl 8 (by decide) (hg _ wF_X12_34) (fun _ h9 => h9) rfl dX12_rows_386 ?_
        refine lv_iload_n hx hb dX12_rows_389 rfl (lv_at hl 3 rfl) ?_
        refine va_iald hx hb hK hP 7 0 rfl rfl (by assumption) dX12_rows_390 ?_
        refine lv_iload_n hx hb dX12_rows_391 rfl (lv_at hl 4 rfl) ?_
        refine cV_i (C := RX12) (n := 2) (rest := []) hx hb hml hown hg hT (c_X12_indexN l dC dI g ty H.size Y pa kp ks I tl ac wr tw (P.2.2.2.2.2.1 y) (pa a0.toNatClampNeg) b0 (by exact hvt.1) (by exact hvt.2.1) (by exact hvt.2.2.1)) (cv_of hg wM_X12_137 wN_X12_index wL_X12_X12_index wK_X12_index wI_X12 (by decide +kernel) ⟨Nat.le_of_ble_eq_true rfl, Nat.le_of_ble_eq_true rfl⟩) hK hP hD hS hA (va_recv hK hP (ci := 14) (q0 := 0) rfl rfl) rfl hl.1 rfl (Nat.le_of_ble_eq_true rfl) dX12_rows_392 ⟨Nat.le_of_ble_eq_true rfl, Nat.le_of_ble_eq_true rfl⟩ (fun r_172 u_173 H locs q_171 hP hD hS => ?_)
        rcases q_171 with ⟨rfl, rfl, f_174⟩ | ⟨rfl, rfl, f_175⟩
        · show _
          exact absurd (by assumption) f_174
        · show _
          have hP : va_P (dC, dI) vwCl (rW g ty Y pa kp ks I tl ac wr tw) H := hP
          have hD : va_D A (rW g ty Y pa kp ks I tl ac wr tw) := hD
          refine lv_if_ne (tgt := 403) hx hb dX12_rows_395 (by decide) (fun _ => ?_) (fun c9 => absurd c9 (by decide)) 
          refine lv_aload_n hx hb dX12_rows_403 rfl (lv_at hl 1 rfl) ?_
          refine lv_aload_n hx hb dX12_rows_404 rfl (lv_at hl 1 rfl) ?_
          refine va_get (D := (dC, dI)) (ci := 14) (v := .ref (g 9)) (C := RX12) (T := TX12) (N := 21) hx hb hg inG12 hown hK hP 0 rfl rfl 8 (by decide) (hg _ wF_X12_34) (fun _ h9 => h9) rfl dX12_rows_405 ?_
          refine lv_iload_n hx hb dX12_rows_408 rfl (lv_at hl 3 rfl) ?_
          refine va_iald hx hb hK hP 7 0 rfl rfl (by assumption) dX12_rows_409 ?_
          refine lv_iload_n hx hb dX12_rows_410 rfl (lv_at hl 4 rfl) ?_
          refine cV_l (C := RX12) (n := 2) (rest := []) hx hb hml hown hg hT (c_X12_cell l dC dI g ty H.size Y pa kp ks I tl ac wr tw (pa a0.toNatClampNeg) b0 (by exact hvt.1) (by exact (hvt.2.2.2 _ (by assumption)).1)) (cv_of hg wM_X12_140 wN_X12_cell wL_X12_X12_cell wK_X12_cell wI_X12 (by decide +kernel) ⟨Nat.le_of_ble_eq_true rfl, Nat.le_of_ble_eq_true rfl⟩) hK hP hD hS hA (va_recv hK hP (ci := 14) (q0 := 0) rfl rfl) rfl hl.1 rfl (Nat.le_of_ble_eq_true rfl) dX12_rows_411 ⟨Nat.le_of_ble_eq_true rfl, Nat.le_of_ble_eq_true rfl⟩ (fun r_177 u_178 H locs q_176 hP hD hS => ?_)
          obtain rfl := q_176
          have hP : va_P (dC, dI) vwCl (rW g ty Y pa kp ks I tl ac wr tw) H := hP
          have hD : va_D A (rW g ty Y pa kp ks I tl ac wr tw) := hD
          refine lv_l2i (v := ((Y.2.2.2.2.2.1 (Y.2.1 (pa a0.toNatClampNeg).toNatClampNeg + b0).toNatClampNeg).toInt32)) hx hb dX12_rows_414 rfl ?_
          refine lv_topi (fun x9 ex90 => ?_)
          have ex9 : x9 = ((Y.2.2.2.2.2.1 (Y.2.1 (pa a0.toNatClampNeg).toNatClampNeg + b0).toNatClampNeg).toInt32) := ex90
          have hl9 := (hvt.2.2.2 _ f_175).2
          have hx9 := ll_some hl9 g7
          rw [← ex9] at hx9
          have hm9 := wf.2.2.2.2.1 _ _ _ (wf_arr wf tht.1 kt g5).1 (wf_arr wf tht.1 kt g5).2 g7
          have ko9 := kc_8 wf tht.1 tht.2 f_165 g5 g7
          have kq := cIs_0 (ki_row0 wf hm9.1 hm9.2 ko9)
          have hvq := rv_row rel hx9.1 hx9.2.1 hx9.2.2 kq g8
          have hne9 := (i32_pos hx9.1).2.1
          refine lv_istore (lv' := [(6, .int x9), (5, .int (b0 &&& 7)), (0, .ref (g 8)), (1, .int 5), (2, .int a0), (3, .int b0), (4, .int c0)]) hx hb dX12_rows_415 hl (by decide) rfl (fun ls hl => ?_)
          refine lv_iload hx hb dX12_rows_417 (lv_at hl 0 rfl) ?_
          refine lv_if_ne (tgt := 433) hx hb dX12_rows_419 (by decide) (fun _ => ?_) (fun c9 => absurd c9 hne9)
          refine lv_aload_n hx hb dX12_rows_433 rfl (lv_at hl 2 rfl) ?_
          refine lv_iload hx hb dX12_rows_434 (lv_at hl 0 rfl) ?_
          refine lv_iload hx hb dX12_rows_436 (lv_at hl 6 rfl) ?_
          refine cV_i (C := RX12) (n := 2) (rest := []) hx hb hml hown hg hT (c_X12_indexN l dC dI g ty H.size Y pa kp ks I tl ac wr tw (P.2.2.2.2.2.1 z) x9 c0 (by exact hvq.1) (by exact hvq.2.1) (by exact hvq.2.2.1)) (cv_of hg wM_X12_137 wN_X12_index wL_X12_X12_index wK_X12_index wI_X12 (by decide +kernel) ⟨Nat.le_of_ble_eq_true rfl, Nat.le_of_ble_eq_true rfl⟩) hK hP hD hS hA (va_recv hK hP (ci := 14) (q0 := 0) rfl rfl) rfl hl.1 rfl (Nat.le_of_ble_eq_true rfl) dX12_rows_438 ⟨Nat.le_of_ble_eq_true rfl, Nat.le_of_ble_eq_true rfl⟩ (fun r_180 u_181 H locs q_179 hP hD hS => ?_)
          rcases q_179 with ⟨rfl, rfl, f_182⟩ | ⟨rfl, rfl, f_183⟩
          · show _
            exact absurd (by assumption) f_182
          · show _
            have hP : va_P (dC, dI) vwCl (rW g ty Y pa kp ks I tl ac wr tw) H := hP
            have hD : va_D A (rW g ty Y pa kp ks I tl ac wr tw) := hD
            refine lv_if_ne (tgt := 449) hx hb dX12_rows_441 (by decide) (fun _ => ?_) (fun c9 => absurd c9 (by decide)) 
            refine lv_iload_n hx hb dX12_rows_449 rfl (lv_at hl 3 rfl) ?_
            refine lv_iconst (v := 5) hx hb dX12_rows_450 (by decide) ?_
            refine lv_icmp_ne (tgt := 463) hx hb dX12_rows_451 (by decide) (fun c9 => absurd (by decide) c9) (fun _ => ?_)
            refine lv_aload_n hx hb dX12_rows_454 rfl (lv_at hl 2 rfl) ?_
            refine lv_iload hx hb dX12_rows_455 (lv_at hl 0 rfl) ?_
            refine lv_iload hx hb dX12_rows_457 (lv_at hl 6 rfl) ?_
            refine cV_l (C := RX12) (n := 2) (rest := []) hx hb hml hown hg hT (c_X12_cell l dC dI g ty H.size Y pa kp ks I tl ac wr tw x9 c0 (by exact hvq.1) (by exact (hvq.2.2.2 _ (by assumption)).1)) (cv_of hg wM_X12_140 wN_X12_cell wL_X12_X12_cell wK_X12_cell wI_X12 (by decide +kernel) ⟨Nat.le_of_ble_eq_true rfl, Nat.le_of_ble_eq_true rfl⟩) hK hP hD hS hA (va_recv hK hP (ci := 14) (q0 := 0) rfl rfl) rfl hl.1 rfl (Nat.le_of_ble_eq_true rfl) dX12_rows_459 ⟨Nat.le_of_ble_eq_true rfl, Nat.le_of_ble_eq_true rfl⟩ (fun r_185 u_186 H locs q_184 hP hD hS => ?_)
            obtain rfl := q_184
            have hP : va_P (dC, dI) vwCl (rW g ty Y pa kp ks I tl ac wr tw) H := hP
            have hD : va_D A (rW g ty Y pa kp ks I tl ac wr tw) := hD
            refine cr_l (wo := fun u : rY × (Nat → Int32) × (Nat → Int32) × (Nat → Int32) × Int32 × Int32 => rW g ty u.1 u.2.1 u.2.2.1 ks I u.2.2.2.1 ac u.2.2.2.2.1 u.2.2.2.2.2) ((Y, pa, kp, tl, wr, tw)) hx hb hr hlk hS hP hD ?_ dX12_rows_462
            exact ⟨Y.2.2.2.2.2.1 (Y.2.1 x9.toNatClampNeg + c0).toNatClampNeg, Y, pa, kp, tl, wr, tw, rfl, rfl, (by subst pre6; exact ra_ok rel hcnt htl (hvq.2.2.2 _ (by assumption)).2)⟩
set_option maxHeartbeats 800000 in
set_option maxRecDepth 100000 in
theorem c_X12_rows_6 (l : Launch) (dC : Nat → ClassId) (dI : Nat → Nat → Nat) (g : Nat → Nat) (ty : Nat → ClassId) (sz : Nat) (Y : rY) (pa : Nat → Int32) (kp : Nat → Int32) (ks : Int32) (I : rI) (tl : Nat → Int32) (ac : Int64) (wr : Int32) (tw : Int32) (ρ : Nat → Nat) (pl : Nat → Option Nat) (P : cQ) (md : Int32) (Z : cZ) (rz9 : Int64) (u9 : Int32 × cQ) (a0 : Int32) (b0 : Int32) (c0 : Int32) (pre0 : rR Y.2.2.2.2.2.2.2.2.2.1 Y pa ρ pl P) (pre1 : cWF pl P) (pre2 : ks = 0) (pre3 : rCnt Y md) (pre4 : tl 5 = md) (pre5 : 0 ≤ md ∧ md ≤ 6000) (pre6 : tw = 0) (pre7 : q_X11_o6 a0 b0 c0 pl ac (-1) md Z P rz9 u9) : Met l yX12_rows (Cond.code yX12_rows cX12_rows 8 (some .long) :: gT) ({ frames := 3, cells := 0, slots := 0, locals := 82 }) (cP (dC, dI) (rTy ty) (rW g ty Y pa kp ks I tl ac wr tw) sz [.ref (g 8), .int 6, .int a0, .int b0, .int c0]) (va_Ql (fun (rz : Int64) (u : rY × (Nat → Int32) × (Nat → Int32) × (Nat → Int32) × Int32 × Int32) => ∃ (r' : Int64) (Y' : rY) (pa' kp' tl' : Nat → Int32) (wr' tw' : Int32), r' = rz ∧ (Y', pa', kp', tl', wr', tw') = u ∧ rAns u9.1 rz9 pl u9.2 md tl Y r' Y' pa' tl' wr' tw') (cB (dC, dI) (fun u : rY × (Nat → Int32) × (Nat → Int32) × (Nat → Int32) × Int32 × Int32 => rW g ty u.1 u.2.1 u.2.2.1 ks I u.2.2.2.1 ac u.2.2.2.2.1 u.2.2.2.2.2) (va_A (rW g ty Y pa kp ks I tl ac wr tw) sz)) (va_A (rW g ty Y pa kp ks I tl ac wr tw) sz)) 0 0 (va_A (rW g ty Y pa kp ks I tl ac wr tw) sz) := by
  refine cc_of (Qa := fun A => va_Ql (fun (rz : Int64) (u : rY × (Nat → Int32) × (Nat → Int32) × (Nat → Int32) × Int32 × Int32) => ∃ (r' : Int64) (Y' : rY) (pa' kp' tl' : Nat → Int32) (wr' tw' : Int32), r' = rz ∧ (Y', pa', kp', tl', wr', tw') = u ∧ rAns u9.1 rz9 pl u9.2 md tl Y r' Y' pa' tl' wr' tw') (cB (dC, dI) (fun u : rY × (Nat → Int32) × (Nat → Int32) × (Nat → Int32) × Int32 × Int32 => rW g ty u.1 u.2.1 u.2.2.1 ks I u.2.2.2.1 ac u.2.2.2.2.1 u.2.2.2.2.2) A) A) (by decide) (Nat.le_of_ble_eq_true rfl) ?_
  intro p e s m below meth c A hx hb hr hml hown hg hlk hmn hP hK hD hT hS hA hsz ls hl
  have hown : s.vm.findClass RX12 = some m.cls := hown
  have rel := pre0
  have wf := pre1
  have hcnt := pre3
  have htl := pre4
  rcases pre7 with ⟨rfl, rfl, g2⟩ | ⟨t, rfl, rfl, g2, g3, g4⟩ | ⟨rfl, rfl, g2, g3⟩ | ⟨t, y, rfl, rfl, g2, g3, g4, g5, g6⟩ | ⟨t, y, rfl, rfl, g2, g3, g4, g5, g6, g7⟩ | ⟨t, y, q, z, rfl, rfl, g2, g3, g4, g5, g6, g7, g8, g9⟩ | ⟨t, y, q, z, rfl, rfl, g2, g3, g4, g5, g6, g7, g8, g9, g10, g11⟩
  · show _
    have hl : lv_has ls 8 [(0, .ref (g 8)), (1, .int 6), (2, .int a0), (3, .int b0), (4, .int c0)] := hl
    refine lv_iload_n hx hb dX12_rows_0 rfl (lv_at hl 3 rfl) ?_
    refine lv_bipush (v := 7) hx hb dX12_rows_1 (by decide) ?_
    refine lv_iand hx hb dX12_rows_3 ?_
    refine lv_istore (lv' := [(5, .int (b0 &&& 7)), (0, .ref (g 8)), (1, .int 6), (2, .int a0), (3, .int b0), (4, .int c0)]) hx hb dX12_rows_4 hl (by decide) rfl (fun ls hl => ?_)
    refine lv_iload_n hx hb dX12_rows_6 rfl (lv_at hl 2 rfl) ?_
    refine lv_tableIn (off := 359) (tgt := 366) hx hb dX12_rows_7 (by decide) (by decide) (by decide) (by decide) ?_
    refine lv_aload_n hx hb dX12_rows_366 rfl (lv_at hl 1 rfl) ?_
    refine lv_iload_n hx hb dX12_rows_367 rfl (lv_at hl 3 rfl) ?_
    refine lv_bipush (v := 8) hx hb dX12_rows_368 (by decide) ?_
    refine cV_i (C := RX12) (n := 2) (rest := []) hx hb hml hown hg hT (c_X12_thing l dC dI g ty s.heap.size Y pa kp ks I tl ac wr tw ρ pl P a0 8 (by exact rel) (by exact wf) (by exact i32_in (by decide) (by decide))) (cv_of hg wM_X12_131 wN_X12_thing wL_X12_X12_thing wK_X12_thing wI_X12 (by decide +kernel) ⟨Nat.le_of_ble_eq_true rfl, Nat.le_of_ble_eq_true rfl⟩) hK hP hD hS hA (va_recv hK hP (ci := 14) (q0 := 0) rfl rfl) rfl hl.1 rfl (Nat.le_of_ble_eq_true rfl) dX12_rows_370 ⟨Nat.le_of_ble_eq_true rfl, Nat.le_of_ble_eq_true rfl⟩ (fun r_2 u_3 H locs q_1 hP hD hS => ?_)
    rcases q_1 with ⟨rfl, rfl, f_4⟩ | ⟨t_5, rfl, rfl, f_6, f_7, f_8⟩ | ⟨rfl, rfl, f_9, f_10⟩ | ⟨t_11, rfl, rfl, f_12, f_13, f_14⟩
    · show _
      have hP : va_P (dC, dI) vwCl (rW g ty Y pa kp ks I tl ac 2 tw) H := hP
      have hD : va_D A (rW g ty Y pa kp ks I tl ac 2 tw) := hD
      refine lv_if_eq (tgt := 398) hx hb dX12_rows_373 (by decide) (fun _ => ?_) (fun c9 => absurd (by decide) c9) 
      refine lv_aload_n hx hb dX12_rows_398 rfl (lv_at hl 1 rfl) ?_
      refine cV_l (C := RX12) (n := 0) (rest := []) hx hb hml hown hg hT (c_X12_no l dC dI g ty H.size Y pa kp ks I tl ac 2 tw  ) (cv_of hg wM_X12_107 wN_X12_no wL_X12_X12_no wK_X12_no wI_X12 (by decide +kernel) ⟨Nat.le_of_ble_eq_true rfl, Nat.le_of_ble_eq_true rfl⟩) hK hP hD hS hA (va_recv hK hP (ci := 14) (q0 := 0) rfl rfl) rfl hl.1 rfl (Nat.le_of_ble_eq_true rfl) dX12_rows_399 ⟨Nat.le_of_ble_eq_true rfl, Nat.le_of_ble_eq_true rfl⟩ (fun r_16 u_17 H locs q_15 hP hD hS => ?_)
      obtain ⟨rfl, rfl⟩ := q_15
      have hP : va_P (dC, dI) vwCl (rW g ty Y pa kp ks I tl ac 2 1) H := hP
      have hD : va_D A (rW g ty Y pa kp ks I tl ac 2 1) := hD
      refine cr_l (wo := fun u : rY × (Nat → Int32) × (Nat → Int32) × (Nat → Int32) × Int32 × Int32 => rW g ty u.1 u.2.1 u.2.2.1 ks I u.2.2.2.1 ac u.2.2.2.2.1 u.2.2.2.2.2) ((Y, pa, kp, tl, 2, 1)) hx hb hr hlk hS hP hD ?_ dX12_rows_402
      exact ⟨0, Y, pa, kp, tl, 2, 1, rfl, rfl, (by exact ra_f (f := 2) rel hcnt htl (by decide))⟩
    · show _
      exact absurd f_6 (by assumption)
    · show _
      exact absurd f_9 (by assumption)
    · show _
      exact absurd f_12 (by assumption)
  · show _
    obtain ⟨n1t, n2t, n3t⟩ := rk_some rel g2 g3
    have hnet := (i32_pos n1t).2.1
    have tht := wf.1 _ _ g3
    have hl : lv_has ls 8 [(0, .ref (g 8)), (1, .int 6), (2, .int a0), (3, .int b0), (4, .int c0)] := hl
    refine lv_iload_n hx hb dX12_rows_0 rfl (lv_at hl 3 rfl) ?_
    refine lv_bipush (v := 7) hx hb dX12_rows_1 (by decide) ?_
    refine lv_iand hx hb dX12_rows_3 ?_
    refine lv_istore (lv' := [(5, .int (b0 &&& 7)), (0, .ref (g 8)), (1, .int 6), (2, .int a0), (3, .int b0), (4, .int c0)]) hx hb dX12_rows_4 hl (by decide) rfl (fun ls hl => ?_)
    refine lv_iload_n hx hb dX12_rows_6 rfl (lv_at hl 2 rfl) ?_
    refine lv_tableIn (off := 359) (tgt := 366) hx hb dX12_rows_7 (by decide) (by decide) (by decide) (by decide) ?_
    refine lv_aload_n hx hb dX12_rows_366 rfl (lv_at hl 1 rfl) ?_
    refine lv_iload_n hx hb dX12_rows_367 rfl (lv_at hl 3 rfl) ?_
    refine lv_bipush (v := 8) hx hb dX12_rows_368 (by decide) ?_
    refine cV_i (C := RX12) (n := 2) (rest := []) hx hb hml hown hg hT (c_X12_thing l dC dI g ty s.heap.size Y pa kp ks I tl ac wr tw ρ pl P a0 8 (by exact rel) (by exact wf) (by exact i32_in (by decide) (by decide))) (cv_of hg wM_X12_131 wN_X12_thing wL_X12_X12_thing wK_X12_thing wI_X12 (by decide +kernel) ⟨Nat.le_of_ble_eq_true rfl, Nat.le_of_ble_eq_true rfl⟩) hK hP hD hS hA (va_recv hK hP (ci := 14) (q0 := 0) rfl rfl) rfl hl.1 rfl (Nat.le_of_ble_eq_true rfl) dX12_rows_370 ⟨Nat.le_of_ble_eq_true rfl, Nat.le_of_ble_eq_true rfl⟩ (fun r_19 u_20 H locs q_18 hP hD hS => ?_)
    rcases q_18 with ⟨rfl, rfl, f_21⟩ | ⟨t_22, rfl, rfl, f_23, f_24, f_25⟩ | ⟨rfl, rfl, f_26, f_27⟩ | ⟨t_28, rfl, rfl, f_29, f_30, f_31⟩
    · show _
      exact absurd (by assumption) f_21
    · show _
      obtain rfl := Option.some.inj (g3.symm.trans f_24)
      have hP : va_P (dC, dI) vwCl (rW g ty Y pa kp ks I tl ac 3 tw) H := hP
      have hD : va_D A (rW g ty Y pa kp ks I tl ac 3 tw) := hD
      refine lv_if_eq (tgt := 398) hx hb dX12_rows_373 (by decide) (fun _ => ?_) (fun c9 => absurd (by decide) c9) 
      refine lv_aload_n hx hb dX12_rows_398 rfl (lv_at hl 1 rfl) ?_
      refine cV_l (C := RX12) (n := 0) (rest := []) hx hb hml hown hg hT (c_X12_no l dC dI g ty H.size Y pa kp ks I tl ac 3 tw  ) (cv_of hg wM_X12_107 wN_X12_no wL_X12_X12_no wK_X12_no wI_X12 (by decide +kernel) ⟨Nat.le_of_ble_eq_true rfl, Nat.le_of_ble_eq_true rfl⟩) hK hP hD hS hA (va_recv hK hP (ci := 14) (q0 := 0) rfl rfl) rfl hl.1 rfl (Nat.le_of_ble_eq_true rfl) dX12_rows_399 ⟨Nat.le_of_ble_eq_true rfl, Nat.le_of_ble_eq_true rfl⟩ (fun r_33 u_34 H locs q_32 hP hD hS => ?_)
      obtain ⟨rfl, rfl⟩ := q_32
      have hP : va_P (dC, dI) vwCl (rW g ty Y pa kp ks I tl ac 3 1) H := hP
      have hD : va_D A (rW g ty Y pa kp ks I tl ac 3 1) := hD
      refine cr_l (wo := fun u : rY × (Nat → Int32) × (Nat → Int32) × (Nat → Int32) × Int32 × Int32 => rW g ty u.1 u.2.1 u.2.2.1 ks I u.2.2.2.1 ac u.2.2.2.2.1 u.2.2.2.2.2) ((Y, pa, kp, tl, 3, 1)) hx hb hr hlk hS hP hD ?_ dX12_rows_402
      exact ⟨0, Y, pa, kp, tl, 3, 1, rfl, rfl, (by exact ra_f (f := 3) rel hcnt htl (by decide))⟩
    · show _
      exact absurd (g3.symm.trans f_27) (by simp)
    · show _
      obtain rfl := Option.some.inj (g3.symm.trans f_30); exact absurd (g4.symm.trans f_31) (by decide)
  · show _
    have hza0 := rk_none rel g2 g3
    have hl : lv_has ls 8 [(0, .ref (g 8)), (1, .int 6), (2, .int a0), (3, .int b0), (4, .int c0)] := hl
    refine lv_iload_n hx hb dX12_rows_0 rfl (lv_at hl 3 rfl) ?_
    refine lv_bipush (v := 7) hx hb dX12_rows_1 (by decide) ?_
    refine lv_iand hx hb dX12_rows_3 ?_
    refine lv_istore (lv' := [(5, .int (b0 &&& 7)), (0, .ref (g 8)), (1, .int 6), (2, .int a0), (3, .int b0), (4, .int c0)]) hx hb dX12_rows_4 hl (by decide) rfl (fun ls hl => ?_)
    refine lv_iload_n hx hb dX12_rows_6 rfl (lv_at hl 2 rfl) ?_
    refine lv_tableIn (off := 359) (tgt := 366) hx hb dX12_rows_7 (by decide) (by decide) (by decide) (by decide) ?_
    refine lv_aload_n hx hb dX12_rows_366 rfl (lv_at hl 1 rfl) ?_
    refine lv_iload_n hx hb dX12_rows_367 rfl (lv_at hl 3 rfl) ?_
    refine lv_bipush (v := 8) hx hb dX12_rows_368 (by decide) ?_
    refine cV_i (C := RX12) (n := 2) (rest := []) hx hb hml hown hg hT (c_X12_thing l dC dI g ty s.heap.size Y pa kp ks I tl ac wr tw ρ pl P a0 8 (by exact rel) (by exact wf) (by exact i32_in (by decide) (by decide))) (cv_of hg wM_X12_131 wN_X12_thing wL_X12_X12_thing wK_X12_thing wI_X12 (by decide +kernel) ⟨Nat.le_of_ble_eq_true rfl, Nat.le_of_ble_eq_true rfl⟩) hK hP hD hS hA (va_recv hK hP (ci := 14) (q0 := 0) rfl rfl) rfl hl.1 rfl (Nat.le_of_ble_eq_true rfl) dX12_rows_370 ⟨Nat.le_of_ble_eq_true rfl, Nat.le_of_ble_eq_true rfl⟩ (fun r_36 u_37 H locs q_35 hP hD hS => ?_)
    rcases q_35 with ⟨rfl, rfl, f_38⟩ | ⟨t_39, rfl, rfl, f_40, f_41, f_42⟩ | ⟨rfl, rfl, f_43, f_44⟩ | ⟨t_45, rfl, rfl, f_46, f_47, f_48⟩
    · show _
      exact absurd (by assumption) f_38
    · show _
      exact absurd (g3.symm.trans f_41) (by simp)
    · show _
      have hP : va_P (dC, dI) vwCl (rW g ty Y pa kp ks I tl ac wr tw) H := hP
      have hD : va_D A (rW g ty Y pa kp ks I tl ac wr tw) := hD
      refine lv_if_eq (tgt := 398) hx hb dX12_rows_373 (by decide) (fun c9 => absurd c9 (by decide)) (fun _ => ?_)
      refine lv_aload_n hx hb dX12_rows_376 rfl (lv_at hl 1 rfl) ?_
      refine lv_iload_n hx hb dX12_rows_377 rfl (lv_at hl 3 rfl) ?_
      refine cV_i (C := RX12) (n := 1) (rest := []) hx hb hml hown hg hT (c_X12_need l dC dI g ty H.size Y pa kp ks I tl ac wr tw a0 (by assumption)) (cv_of hg wM_X12_134 wN_X12_need wL_X12_X12_need wK_X12_need wI_X12 (by decide +kernel) ⟨Nat.le_of_ble_eq_true rfl, Nat.le_of_ble_eq_true rfl⟩) hK hP hD hS hA (va_recv hK hP (ci := 14) (q0 := 0) rfl rfl) rfl hl.1 rfl (Nat.le_of_ble_eq_true rfl) dX12_rows_378 ⟨Nat.le_of_ble_eq_true rfl, Nat.le_of_ble_eq_true rfl⟩ (fun r_50 u_51 H locs q_49 hP hD hS => ?_)
      rcases q_49 with ⟨rfl, rfl, f_52⟩ | ⟨rfl, rfl, f_53⟩
      · show _
        have hP : va_P (dC, dI) vwCl (rW g ty Y pa kp ks I tl ac 1 tw) H := hP
        have hD : va_D A (rW g ty Y pa kp ks I tl ac 1 tw) := hD
        refine lv_if_eq (tgt := 398) hx hb dX12_rows_381 (by decide) (fun _ => ?_) (fun c9 => absurd (by decide) c9) 
        refine lv_aload_n hx hb dX12_rows_398 rfl (lv_at hl 1 rfl) ?_
        refine cV_l (C := RX12) (n := 0) (rest := []) hx hb hml hown hg hT (c_X12_no l dC dI g ty H.size Y pa kp ks I tl ac 1 tw  ) (cv_of hg wM_X12_107 wN_X12_no wL_X12_X12_no wK_X12_no wI_X12 (by decide +kernel) ⟨Nat.le_of_ble_eq_true rfl, Nat.le_of_ble_eq_true rfl⟩) hK hP hD hS hA (va_recv hK hP (ci := 14) (q0 := 0) rfl rfl) rfl hl.1 rfl (Nat.le_of_ble_eq_true rfl) dX12_rows_399 ⟨Nat.le_of_ble_eq_true rfl, Nat.le_of_ble_eq_true rfl⟩ (fun r_55 u_56 H locs q_54 hP hD hS => ?_)
        obtain ⟨rfl, rfl⟩ := q_54
        have hP : va_P (dC, dI) vwCl (rW g ty Y pa kp ks I tl ac 1 1) H := hP
        have hD : va_D A (rW g ty Y pa kp ks I tl ac 1 1) := hD
        refine cr_l (wo := fun u : rY × (Nat → Int32) × (Nat → Int32) × (Nat → Int32) × Int32 × Int32 => rW g ty u.1 u.2.1 u.2.2.1 ks I u.2.2.2.1 ac u.2.2.2.2.1 u.2.2.2.2.2) ((Y, pa, kp, tl, 1, 1)) hx hb hr hlk hS hP hD ?_ dX12_rows_402
        exact ⟨0, Y, pa, kp, tl, 1, 1, rfl, rfl, (by exact ra_f (f := 1) rel hcnt htl (by decide))⟩
      · show _
        exact absurd (by assumption) f_53
    · show _
      exact absurd (g3.symm.trans f_47) (by simp)
  · show _
    obtain ⟨n1t, n2t, n3t⟩ := rk_some rel g2 g3
    have hnet := (i32_pos n1t).2.1
    have tht := wf.1 _ _ g3
    have kt := cIs_1 (ki_8 wf tht.1 tht.2 g4)
    have hvt := rv_shelf rel n1t n2t n3t kt g5
    have hl : lv_has ls 8 [(0, .ref (g 8)), (1, .int 6), (2, .int a0), (3, .int b0), (4, .int c0)] := hl
    refine lv_iload_n hx hb dX12_rows_0 rfl (lv_at hl 3 rfl) ?_
    refine lv_bipush (v := 7) hx hb dX12_rows_1 (by decide) ?_
    refine lv_iand hx hb dX12_rows_3 ?_
    refine lv_istore (lv' := [(5, .int (b0 &&& 7)), (0, .ref (g 8)), (1, .int 6), (2, .int a0), (3, .int b0), (4, .int c0)]) hx hb dX12_rows_4 hl (by decide) rfl (fun ls hl => ?_)
    refine lv_iload_n hx hb dX12_rows_6 rfl (lv_at hl 2 rfl) ?_
    refine lv_tableIn (off := 359) (tgt := 366) hx hb dX12_rows_7 (by decide) (by decide) (by decide) (by decide) ?_
    refine lv_aload_n hx hb dX12_rows_366 rfl (lv_at hl 1 rfl) ?_
    refine lv_iload_n hx hb dX12_rows_367 rfl (lv_at hl 3 rfl) ?_
    refine lv_bipush (v := 8) hx hb dX12_rows_368 (by decide) ?_
    refine cV_i (C := RX12) (n := 2) (rest := []) hx hb hml hown hg hT (c_X12_thing l dC dI g ty s.heap.size Y pa kp ks I tl ac wr tw ρ pl P a0 8 (by exact rel) (by exact wf) (by exact i32_in (by decide) (by decide))) (cv_of hg wM_X12_131 wN_X12_thing wL_X12_X12_thing wK_X12_thing wI_X12 (by decide +kernel) ⟨Nat.le_of_ble_eq_true rfl, Nat.le_of_ble_eq_true rfl⟩) hK hP hD hS hA (va_recv hK hP (ci := 14) (q0 := 0) rfl rfl) rfl hl.1 rfl (Nat.le_of_ble_eq_true rfl) dX12_rows_370 ⟨Nat.le_of_ble_eq_true rfl, Nat.le_of_ble_eq_true rfl⟩ (fun r_58 u_59 H locs q_57 hP hD hS => ?_)
    rcases q_57 with ⟨rfl, rfl, f_60⟩ | ⟨t_61, rfl, rfl, f_62, f_63, f_64⟩ | ⟨rfl, rfl, f_65, f_66⟩ | ⟨t_67, rfl, rfl, f_68, f_69, f_70⟩
    · show _
      exact absurd (by assumption) f_60
    · show _
      obtain rfl := Option.some.inj (g3.symm.trans f_63); exact absurd (g4.symm.trans f_64) (by decide)
    · show _
      exact absurd (g3.symm.trans f_66) (by simp)
    · show _
      obtain rfl := Option.some.inj (g3.symm.trans f_69)
      have hP : va_P (dC, dI) vwCl (rW g ty Y pa kp ks I tl ac wr tw) H := hP
      have hD : va_D A (rW g ty Y pa kp ks I tl ac wr tw) := hD
      refine lv_if_eq (tgt := 398) hx hb dX12_rows_373 (by decide) (fun c9 => absurd c9 (by decide)) (fun _ => ?_)
      refine lv_aload_n hx hb dX12_rows_376 rfl (lv_at hl 1 rfl) ?_
      refine lv_iload_n hx hb dX12_rows_377 rfl (lv_at hl 3 rfl) ?_
      refine cV_i (C := RX12) (n := 1) (rest := []) hx hb hml hown hg hT (c_X12_need l dC dI g ty H.size Y pa kp ks I tl ac wr tw a0 (by assumption)) (cv_of hg wM_X12_134 wN_X12_need wL_X12_X12_need wK_X12_need wI_X12 (by decide +kernel) ⟨Nat.le_of_ble_eq_true rfl, Nat.le_of_ble_eq_true rfl⟩) hK hP hD hS hA (va_recv hK hP (ci := 14) (q0 := 0) rfl rfl) rfl hl.1 rfl (Nat.le_of_ble_eq_true rfl) dX12_rows_378 ⟨Nat.le_of_ble_eq_true rfl, Nat.le_of_ble_eq_true rfl⟩ (fun r_72 u_73 H locs q_71 hP hD hS => ?_)
      rcases q_71 with ⟨rfl, rfl, f_74⟩ | ⟨rfl, rfl, f_75⟩
      · show _
        exact absurd f_74 (by assumption)
      · show _
        have hP : va_P (dC, dI) vwCl (rW g ty Y pa kp ks I tl ac wr tw) H := hP
        have hD : va_D A (rW g ty Y pa kp ks I tl ac wr tw) := hD
        refine lv_if_eq (tgt := 398) hx hb dX12_rows_381 (by decide) (fun c9 => absurd c9 (by decide)) (fun _ => ?_)
        refine lv_aload_n hx hb dX12_rows_384 rfl (lv_at hl 1 rfl) ?_
        refine lv_aload_n hx hb dX12_rows_385 rfl (lv_at hl 1 rfl) ?_
        refine va_get (D := (dC, dI)) (ci := 14) (v := .ref (g 9)) (C := RX12) (T := TX12) (N := 21) hx hb hg inG12 hown hK hP 0 rfl rfl 8 (by decide) (hg _ wF_X12_34) (fun _ h9 => h9) rfl dX12_rows_386 ?_
        refine lv_iload_n hx hb dX12_rows_389 rfl (lv_at hl 3 rfl) ?_
        refine va_iald hx hb hK hP 7 0 rfl rfl (by assumption) dX12_rows_390 ?_
        refine lv_iload_n hx hb dX12_rows_391 rfl (lv_at hl 4 rfl) ?_
        refine cV_i (C := RX12) (n := 2) (rest := []) hx hb hml hown hg hT (c_X12_indexN l dC dI g ty H.size Y pa kp ks I tl ac wr tw (P.2.2.2.2.2.1 y) (pa a0.toNatClampNeg) b0 (by exact hvt.1) (by exact hvt.2.1) (by exact hvt.2.2.1)) (cv_of hg wM_X12_137 wN_X12_index wL_X12_X12_index wK_X12_index wI_X12 (by decide +kernel) ⟨Nat.le_of_ble_eq_true rfl, Nat.le_of_ble_eq_true rfl⟩) hK hP hD hS hA (va_recv hK hP (ci := 14) (q0 := 0) rfl rfl) rfl hl.1 rfl (Nat.le_of_ble_eq_true rfl) dX12_rows_392 ⟨Nat.le_of_ble_eq_true rfl, Nat.le_of_ble_eq_true rfl⟩ (fun r_77 u_78 H locs q_76 hP hD hS => ?_)
        rcases q_76 with ⟨rfl, rfl, f_79⟩ | ⟨rfl, rfl, f_80⟩
        · show _
          have hP : va_P (dC, dI) vwCl (rW g ty Y pa kp ks I tl ac 2 tw) H := hP
          have hD : va_D A (rW g ty Y pa kp ks I tl ac 2 tw) := hD
          refine lv_if_ne (tgt := 403) hx hb dX12_rows_395 (by decide) (fun c9 => absurd (by decide) c9) (fun _ => ?_)
          refine lv_aload_n hx hb dX12_rows_398 rfl (lv_at hl 1 rfl) ?_
          refine cV_l (C := RX12) (n := 0) (rest := []) hx hb hml hown hg hT (c_X12_no l dC dI g ty H.size Y pa kp ks I tl ac 2 tw  ) (cv_of hg wM_X12_107 wN_X12_no wL_X12_X12_no wK_X12_no wI_X12 (by decide +kernel) ⟨Nat.le_of_ble_eq_true rfl, Nat.le_of_ble_eq_true rfl⟩) hK hP hD hS hA (va_recv hK hP (ci := 14) (q0 := 0) rfl rfl) rfl hl.1 rfl (Nat.le_of_ble_eq_true rfl) dX12_rows_399 ⟨Nat.le_of_ble_eq_true rfl, Nat.le_of_ble_eq_true rfl⟩ (fun r_82 u_83 H locs q_81 hP hD hS => ?_)
          obtain ⟨rfl, rfl⟩ := q_81
          have hP : va_P (dC, dI) vwCl (rW g ty Y pa kp ks I tl ac 2 1) H := hP
          have hD : va_D A (rW g ty Y pa kp ks I tl ac 2 1) := hD
          refine cr_l (wo := fun u : rY × (Nat → Int32) × (Nat → Int32) × (Nat → Int32) × Int32 × Int32 => rW g ty u.1 u.2.1 u.2.2.1 ks I u.2.2.2.1 ac u.2.2.2.2.1 u.2.2.2.2.2) ((Y, pa, kp, tl, 2, 1)) hx hb hr hlk hS hP hD ?_ dX12_rows_402
          exact ⟨0, Y, pa, kp, tl, 2, 1, rfl, rfl, (by exact ra_f (f := 2) rel hcnt htl (by decide))⟩
        · show _
          exact absurd f_80 (by assumption)
  · show _
    obtain ⟨n1t, n2t, n3t⟩ := rk_some rel g2 g3
    have hnet := (i32_pos n1t).2.1
    have tht := wf.1 _ _ g3
    have kt := cIs_1 (ki_8 wf tht.1 tht.2 g4)
    have hvt := rv_shelf rel n1t n2t n3t kt g5
    have hl : lv_has ls 8 [(0, .ref (g 8)), (1, .int 6), (2, .int a0), (3, .int b0), (4, .int c0)] := hl
    refine lv_iload_n hx hb dX12_rows_0 rfl (lv_at hl 3 rfl) ?_
    refine lv_bipush (v := 7) hx hb dX12_rows_1 (by decide) ?_
    refine lv_iand hx hb dX12_rows_3 ?_
    refine lv_istore (lv' := [(5, .int (b0 &&& 7)), (0, .ref (g 8)), (1, .int 6), (2, .int a0), (3, .int b0), (4, .int c0)]) hx hb dX12_rows_4 hl (by decide) rfl (fun ls hl => ?_)
    refine lv_iload_n hx hb dX12_rows_6 rfl (lv_at hl 2 rfl) ?_
    refine lv_tableIn (off := 359) (tgt := 366) hx hb dX12_rows_7 (by decide) (by decide) (by decide) (by decide) ?_
    refine lv_aload_n hx hb dX12_rows_366 rfl (lv_at hl 1 rfl) ?_
    refine lv_iload_n hx hb dX12_rows_367 rfl (lv_at hl 3 rfl) ?_
    refine lv_bipush (v := 8) hx hb dX12_rows_368 (by decide) ?_
    refine cV_i (C := RX12) (n := 2) (rest := []) hx hb hml hown hg hT (c_X12_thing l dC dI g ty s.heap.size Y pa kp ks I tl ac wr tw ρ pl P a0 8 (by exact rel) (by exact wf) (by exact i32_in (by decide) (by decide))) (cv_of hg wM_X12_131 wN_X12_thing wL_X12_X12_thing wK_X12_thing wI_X12 (by decide +kernel) ⟨Nat.le_of_ble_eq_true rfl, Nat.le_of_ble_eq_true rfl⟩) hK hP hD hS hA (va_recv hK hP (ci := 14) (q0 := 0) rfl rfl) rfl hl.1 rfl (Nat.le_of_ble_eq_true rfl) dX12_rows_370 ⟨Nat.le_of_ble_eq_true rfl, Nat.le_of_ble_eq_true rfl⟩ (fun r_85 u_86 H locs q_84 hP hD hS => ?_)
    rcases q_84 with ⟨rfl, rfl, f_87⟩ | ⟨t_88, rfl, rfl, f_89, f_90, f_91⟩ | ⟨rfl, rfl, f_92, f_93⟩ | ⟨t_94, rfl, rfl, f_95, f_96, f_97⟩
    · show _
      exact absurd (by assumption) f_87
    · show _
      obtain rfl := Option.some.inj (g3.symm.trans f_90); exact absurd (g4.symm.trans f_91) (by decide)
    · show _
      exact absurd (g3.symm.trans f_93) (by simp)
    · show _
      obtain rfl := Option.some.inj (g3.symm.trans f_96)
      have hP : va_P (dC, dI) vwCl (rW g ty Y pa kp ks I tl ac wr tw) H := hP
      have hD : va_D A (rW g ty Y pa kp ks I tl ac wr tw) := hD
      refine lv_if_eq (tgt := 398) hx hb dX12_rows_373 (by decide) (fun c9 => absurd c9 (by decide)) (fun _ => ?_)
      refine lv_aload_n hx hb dX12_rows_376 rfl (lv_at hl 1 rfl) ?_
      refine lv_iload_n hx hb dX12_rows_377 rfl (lv_at hl 3 rfl) ?_
      refine cV_i (C := RX12) (n := 1) (rest := []) hx hb hml hown hg hT (c_X12_need l dC dI g ty H.size Y pa kp ks I tl ac wr tw a0 (by assumption)) (cv_of hg wM_X12_134 wN_X12_need wL_X12_X12_need wK_X12_need wI_X12 (by decide +kernel) ⟨Nat.le_of_ble_eq_true rfl, Nat.le_of_ble_eq_true rfl⟩) hK hP hD hS hA (va_recv hK hP (ci := 14) (q0 := 0) rfl rfl) rfl hl.1 rfl (Nat.le_of_ble_eq_true rfl) dX12_rows_378 ⟨Nat.le_of_ble_eq_true rfl, Nat.le_of_ble_eq_true rfl⟩ (fun r_99 u_100 H locs q_98 hP hD hS => ?_)
      rcases q_98 with ⟨rfl, rfl, f_101⟩ | ⟨rfl, rfl, f_102⟩
      · show _
        exact absurd f_101 (by assumption)
      · show _
        have hP : va_P (dC, dI) vwCl (rW g ty Y pa kp ks I tl ac wr tw) H := hP
        have hD : va_D A (rW g ty Y pa kp ks I tl ac wr tw) := hD
        refine lv_if_eq (tgt := 398) hx hb dX12_rows_381 (by decide) (fun c9 => absurd c9 (by decide)) (fun _ => ?_)
        refine lv_aload_n hx hb dX12_rows_384 rfl (lv_at hl 1 rfl) ?_
        refine lv_aload_n hx hb dX12_rows_385 rfl (lv_at hl 1 rfl) ?_
        refine va_get (D := (dC, dI)) (ci := 14) (v := .ref (g 9)) (C := RX12) (T := TX12) (N := 21) hx hb hg inG12 hown hK hP 0 rfl rfl 8 (by decide) (hg _ wF_X12_34) (fun _ h9 => h9) rfl dX12_rows_386 ?_
        refine lv_iload_n hx hb dX12_rows_389 rfl (lv_at hl 3 rfl) ?_
        refine va_iald hx hb hK hP 7 0 rfl rfl (by assumption) dX12_rows_390 ?_
        refine lv_iload_n hx hb dX12_rows_391 rfl (lv_at hl 4 rfl) ?_
        refine cV_i (C := RX12) (n := 2) (rest := []) hx hb hml hown hg hT (c_X12_indexN l dC dI g ty H.size Y pa kp ks I tl ac wr tw (P.2.2.2.2.2.1 y) (pa a0.toNatClampNeg) b0 (by exact hvt.1) (by exact hvt.2.1) (by exact hvt.2.2.1)) (cv_of hg wM_X12_137 wN_X12_index wL_X12_X12_index wK_X12_index wI_X12 (by decide +kernel) ⟨Nat.le_of_ble_eq_true rfl, Nat.le_of_ble_eq_true rfl⟩) hK hP hD hS hA (va_recv hK hP (ci := 14) (q0 := 0) rfl rfl) rfl hl.1 rfl (Nat.le_of_ble_eq_true rfl) dX12_rows_392 ⟨Nat.le_of_ble_eq_true rfl, Nat.le_of_ble_eq_true rfl⟩ (fun r_104 u_105 H locs q_103 hP hD hS => ?_)
        rcases q_103 with ⟨rfl, rfl, f_106⟩ | ⟨rfl, rfl, f_107⟩
        · show _
          exact absurd (by assumption) f_106
        · show _
          have hP : va_P (dC, dI) vwCl (rW g ty Y pa kp ks I tl ac wr tw) H := hP
          have hD : va_D A (rW g ty Y pa kp ks I tl ac wr tw) := hD
          refine lv_if_ne (tgt := 403) hx hb dX12_rows_395 (by decide) (fun _ => ?_) (fun c9 => absurd c9 (by decide)) 
          refine lv_aload_n hx hb dX12_rows_403 rfl (lv_at hl 1 rfl) ?_
          refine lv_aload_n hx hb dX12_rows_404 rfl (lv_at hl 1 rfl) ?_
          refine va_get (D := (dC, dI)) (ci := 14) (v := .ref (g 9)) (C := RX12) (T := TX12) (N := 21) hx hb hg inG12 hown hK hP 0 rfl rfl 8 (by decide) (hg _ wF_X12_34) (fun _ h9 => h9) rfl dX12_rows_405 ?_
          refine lv_iload_n hx hb dX12_rows_408 rfl (lv_at hl 3 rfl) ?_
          refine va_iald hx hb hK hP 7 0 rfl rfl (by assumption) dX12_rows_409 ?_
          refine lv_iload_n hx hb dX12_rows_410 rfl (lv_at hl 4 rfl) ?_
          refine cV_l (C := RX12) (n := 2) (rest := []) hx hb hml hown hg hT (c_X12_cell l dC dI g ty H.size Y pa kp ks I tl ac wr tw (pa a0.toNatClampNeg) b0 (by exact hvt.1) (by exact (hvt.2.2.2 _ (by assumption)).1)) (cv_of hg wM_X12_140 wN_X12_cell wL_X12_X12_cell wK_X12_cell wI_X12 (by decide +kernel) ⟨Nat.le_of_ble_eq_true rfl, Nat.le_of_ble_eq_true rfl⟩) hK hP hD hS hA (va_recv hK hP (ci := 14) (q0 := 0) rfl rfl) rfl hl.1 rfl (Nat.le_of_ble_eq_true rfl) dX12_rows_411 ⟨Nat.le_of_ble_eq_true rfl, Nat.le_of_ble_eq_true rfl⟩ (fun r_109 u_110 H locs q_108 hP hD hS => ?_)
          obtain rfl := q_108
          have hP : va_P (dC, dI) vwCl (rW g ty Y pa kp ks I tl ac wr tw) H := hP
          have hD : va_D A (rW g ty Y pa kp ks I tl ac wr tw) := hD
          refine lv_l2i (v := ((Y.2.2.2.2.2.1 (Y.2.1 (pa a0.toNatClampNeg).toNatClampNeg + b0).toNatClampNeg).toInt32)) hx hb dX12_rows_414 rfl ?_
          refine lv_topi (fun x9 ex90 => ?_)
          have ex9 : x9 = ((Y.2.2.2.2.2.1 (Y.2.1 (pa a0.toNatClampNeg).toNatClampNeg + b0).toNatClampNeg).toInt32) := ex90
          have hl9 := (hvt.2.2.2 _ f_107).2
          have hx9 := ll_none hl9 g7
          rw [← ex9] at hx9
          refine lv_istore (lv' := [(6, .int x9), (5, .int (b0 &&& 7)), (0, .ref (g 8)), (1, .int 6), (2, .int a0), (3, .int b0), (4, .int c0)]) hx hb dX12_rows_415 hl (by decide) rfl (fun ls hl => ?_)
          refine lv_iload hx hb dX12_rows_417 (lv_at hl 0 rfl) ?_
          refine lv_if_ne (tgt := 433) hx hb dX12_rows_419 (by decide) (fun c9 => absurd hx9 c9) (fun _ => ?_)
          refine lv_aload_n hx hb dX12_rows_422 rfl (lv_at hl 2 rfl) ?_
          refine lv_iconst (v := 1) hx hb dX12_rows_423 (by decide) ?_
          refine cV_i (C := RX12) (n := 1) (rest := []) hx hb hml hown hg hT (c_X12_fails l dC dI g ty H.size Y pa kp ks I tl ac wr tw 1 ) (cv_of hg wM_X12_79 wN_X12_fails wL_X12_X12_fails wK_X12_fails wI_X12 (by decide +kernel) ⟨Nat.le_of_ble_eq_true rfl, Nat.le_of_ble_eq_true rfl⟩) hK hP hD hS hA (va_recv hK hP (ci := 14) (q0 := 0) rfl rfl) rfl hl.1 rfl (Nat.le_of_ble_eq_true rfl) dX12_rows_424 ⟨Nat.le_of_ble_eq_true rfl, Nat.le_of_ble_eq_true rfl⟩ (fun r_112 u_113 H locs q_111 hP hD hS => ?_)
          obtain ⟨rfl, rfl⟩ := q_111
          have hP : va_P (dC, dI) vwCl (rW g ty Y pa kp ks I tl ac 1 tw) H := hP
          have hD : va_D A (rW g ty Y pa kp ks I tl ac 1 tw) := hD
          refine lv_pop hx hb dX12_rows_427 rfl ?_
          refine lv_aload_n hx hb dX12_rows_428 rfl (lv_at hl 2 rfl) ?_
          refine cV_l (C := RX12) (n := 0) (rest := []) hx hb hml hown hg hT (c_X12_no l dC dI g ty H.size Y pa kp ks I tl ac 1 tw  ) (cv_of hg wM_X12_107 wN_X12_no wL_X12_X12_no wK_X12_no wI_X12 (by decide +kernel) ⟨Nat.le_of_ble_eq_true rfl, Nat.le_of_ble_eq_true rfl⟩) hK hP hD hS hA (va_recv hK hP (ci := 14) (q0 := 0) rfl rfl) rfl hl.1 rfl (Nat.le_of_ble_eq_true rfl) dX12_rows_429 ⟨Nat.le_of_ble_eq_true rfl, Nat.le_of_ble_eq_true rfl⟩ (fun r_115 u_116 H locs q_114 hP hD hS => ?_)
          obtain ⟨rfl, rfl⟩ := q_114
          have hP : va_P (dC, dI) vwCl (rW g ty Y pa kp ks I tl ac 1 1) H := hP
          have hD : va_D A (rW g ty Y pa kp ks I tl ac 1 1) := hD
          refine cr_l (wo := fun u : rY × (Nat → Int32) × (Nat → Int32) × (Nat → Int32) × Int32 × Int32 => rW g ty u.1 u.2.1 u.2.2.1 ks I u.2.2.2.1 ac u.2.2.2.2.1 u.2.2.2.2.2) ((Y, pa, kp, tl, 1, 1)) hx hb hr hlk hS hP hD ?_ dX12_rows_432
          exact ⟨0, Y, pa, kp, tl, 1, 1, rfl, rfl, (by exact ra_f (f := 1) rel hcnt htl (by decide))⟩
  · show _
    obtain ⟨n1t, n2t, n3t⟩ := rk_some rel g2 g3
    have hnet := (i32_pos n1t).2.1
    have tht := wf.1 _ _ g3
    have kt := cIs_1 (ki_8 wf tht.1 tht.2 g4)
    have hvt := rv_shelf rel n1t n2t n3t kt g5
    have hl : lv_has ls 8 [(0, .ref (g 8)), (1, .int 6), (2, .int a0), (3, .int b0), (4, .int c0)] := hl
    refine lv_iload_n hx hb dX12_rows_0 rfl (lv_at hl 3 rfl) ?_
    refine lv_bipush (v := 7) hx hb dX12_rows_1 (by decide) ?_
    refine lv_iand hx hb dX12_rows_3 ?_
    refine lv_istore (lv' := [(5, .int (b0 &&& 7)), (0, .ref (g 8)), (1, .int 6), (2, .int a0), (3, .int b0), (4, .int c0)]) hx hb dX12_rows_4 hl (by decide) rfl (fun ls hl => ?_)
    refine lv_iload_n hx hb dX12_rows_6 rfl (lv_at hl 2 rfl) ?_
    refine lv_tableIn (off := 359) (tgt := 366) hx hb dX12_rows_7 (by decide) (by decide) (by decide) (by decide) ?_
    refine lv_aload_n hx hb dX12_rows_366 rfl (lv_at hl 1 rfl) ?_
    refine lv_iload_n hx hb dX12_rows_367 rfl (lv_at hl 3 rfl) ?_
    refine lv_bipush (v := 8) hx hb dX12_rows_368 (by decide) ?_
    refine cV_i (C := RX12) (n := 2) (rest := []) hx hb hml hown hg hT (c_X12_thing l dC dI g ty s.heap.size Y pa kp ks I tl ac wr tw ρ pl P a0 8 (by exact rel) (by exact wf) (by exact i32_in (by decide) (by decide))) (cv_of hg wM_X12_131 wN_X12_thing wL_X12_X12_thing wK_X12_thing wI_X12 (by decide +kernel) ⟨Nat.le_of_ble_eq_true rfl, Nat.le_of_ble_eq_true rfl⟩) hK hP hD hS hA (va_recv hK hP (ci := 14) (q0 := 0) rfl rfl) rfl hl.1 rfl (Nat.le_of_ble_eq_true rfl) dX12_rows_370 ⟨Nat.le_of_ble_eq_true rfl, Nat.le_of_ble_eq_true rfl⟩ (fun r_118 u_119 H locs q_117 hP hD hS => ?_)
    rcases q_117 with ⟨rfl, rfl, f_120⟩ | ⟨t_121, rfl, rfl, f_122, f_123, f_124⟩ | ⟨rfl, rfl, f_125, f_126⟩ | ⟨t_127, rfl, rfl, f_128, f_129, f_130⟩
    · show _
      exact absurd (by assumption) f_120
    · show _
      obtain rfl := Option.some.inj (g3.symm.trans f_123); exact absurd (g4.symm.trans f_124) (by decide)
    · show _
      exact absurd (g3.symm.trans f_126) (by simp)
    · show _
      obtain rfl := Option.some.inj (g3.symm.trans f_129)
      have hP : va_P (dC, dI) vwCl (rW g ty Y pa kp ks I tl ac wr tw) H := hP
      have hD : va_D A (rW g ty Y pa kp ks I tl ac wr tw) := hD
      refine lv_if_eq (tgt := 398) hx hb dX12_rows_373 (by decide) (fun c9 => absurd c9 (by decide)) (fun _ => ?_)
      refine lv_aload_n hx hb dX12_rows_376 rfl (lv_at hl 1 rfl) ?_
      refine lv_iload_n hx hb dX12_rows_377 rfl (lv_at hl 3 rfl) ?_
      refine cV_i (C := RX12) (n := 1) (rest := []) hx hb hml hown hg hT (c_X12_need l dC dI g ty H.size Y pa kp ks I tl ac wr tw a0 (by assumption)) (cv_of hg wM_X12_134 wN_X12_need wL_X12_X12_need wK_X12_need wI_X12 (by decide +kernel) ⟨Nat.le_of_ble_eq_true rfl, Nat.le_of_ble_eq_true rfl⟩) hK hP hD hS hA (va_recv hK hP (ci := 14) (q0 := 0) rfl rfl) rfl hl.1 rfl (Nat.le_of_ble_eq_true rfl) dX12_rows_378 ⟨Nat.le_of_ble_eq_true rfl, Nat.le_of_ble_eq_true rfl⟩ (fun r_132 u_133 H locs q_131 hP hD hS => ?_)
      rcases q_131 with ⟨rfl, rfl, f_134⟩ | ⟨rfl, rfl, f_135⟩
      · show _
        exact absurd f_134 (by assumption)
      · show _
        have hP : va_P (dC, dI) vwCl (rW g ty Y pa kp ks I tl ac wr tw) H := hP
        have hD : va_D A (rW g ty Y pa kp ks I tl ac wr tw) := hD
        refine lv_if_eq (tgt := 398) hx hb dX12_rows_381 (by decide) (fun c9 => absurd c9 (by decide)) (fun _ => ?_)
        refine lv_aload_n hx hb dX12_rows_384 rfl (lv_at hl 1 rfl) ?_
        refine lv_aload_n hx hb dX12_rows_385 rfl (lv_at hl 1 rfl) ?_
        refine va_get (D := (dC, dI)) (ci := 14) (v := .ref (g 9)) (C := RX12) (T := TX12) (N := 21) hx hb hg inG12 hown hK hP 0 rfl rfl 8 (by decide) (hg _ wF_X12_34) (fun _ h9 => h9) rfl dX12_rows_386 ?_
        refine lv_iload_n hx hb dX12_rows_389 rfl (lv_at hl 3 rfl) ?_
        refine va_iald hx hb hK hP 7 0 rfl rfl (by assumption) dX12_rows_390 ?_
        refine lv_iload_n hx hb dX12_rows_391 rfl (lv_at hl 4 rfl) ?_
        refine cV_i (C := RX12) (n := 2) (rest := []) hx hb hml hown hg hT (c_X12_indexN l dC dI g ty H.size Y pa kp ks I tl ac wr tw (P.2.2.2.2.2.1 y) (pa a0.toNatClampNeg) b0 (by exact hvt.1) (by exact hvt.2.1) (by exact hvt.2.2.1)) (cv_of hg wM_X12_137 wN_X12_index wL_X12_X12_index wK_X12_index wI_X12 (by decide +kernel) ⟨Nat.le_of_ble_eq_true rfl, Nat.le_of_ble_eq_true rfl⟩) hK hP hD hS hA (va_recv hK hP (ci := 14) (q0 := 0) rfl rfl) rfl hl.1 rfl (Nat.le_of_ble_eq_true rfl) dX12_rows_392 ⟨Nat.le_of_ble_eq_true rfl, Nat.le_of_ble_eq_true rfl⟩ (fun r_137 u_138 H locs q_136 hP hD hS => ?_)
        rcases q_136 with ⟨rfl, rfl, f_139⟩ | ⟨rfl, rfl, f_140⟩
        · show _
          exact absurd (by assumption) f_139
        · show _
          have hP : va_P (dC, dI) vwCl (rW g ty Y pa kp ks I tl ac wr tw) H := hP
          have hD : va_D A (rW g ty Y pa kp ks I tl ac wr tw) := hD
          refine lv_if_ne (tgt := 403) hx hb dX12_rows_395 (by decide) (fun _ => ?_) (fun c9 => absurd c9 (by decide)) 
          refine lv_aload_n hx hb dX12_rows_403 rfl (lv_at hl 1 rfl) ?_
          refine lv_aload_n hx hb dX12_rows_404 rfl (lv_at hl 1 rfl) ?_
          refine va_get (D := (dC, dI)) (ci := 14) (v := .ref (g 9)) (C := RX12) (T := TX12) (N := 21) hx hb hg inG12 hown hK hP 0 rfl rfl 8 (by decide) (hg _ wF_X12_34) (fun _ h9 => h9) rfl dX12_rows_405 ?_
          refine lv_iload_n hx hb dX12_rows_408 rfl (lv_at hl 3 rfl) ?_
          refine va_iald hx hb hK hP 7 0 rfl rfl (by assumption) dX12_rows_409 ?_
          refine lv_iload_n hx hb dX12_rows_410 rfl (lv_at hl 4 rfl) ?_
          refine cV_l (C := RX12) (n := 2) (rest := []) hx hb hml hown hg hT (c_X12_cell l dC dI g ty H.size Y pa kp ks I tl ac wr tw (pa a0.toNatClampNeg) b0 (by exact hvt.1) (by exact (hvt.2.2.2 _ (by assumption)).1)) (cv_of hg wM_X12_140 wN_X12_cell wL_X12_X12_cell wK_X12_cell wI_X12 (by decide +kernel) ⟨Nat.le_of_ble_eq_true rfl, Nat.le_of_ble_eq_true rfl⟩) hK hP hD hS hA (va_recv hK hP (ci := 14) (q0 := 0) rfl rfl) rfl hl.1 rfl (Nat.le_of_ble_eq_true rfl) dX12_rows_411 ⟨Nat.le_of_ble_eq_true rfl, Nat.le_of_ble_eq_true rfl⟩ (fun r_142 u_143 H locs q_141 hP hD hS => ?_)
          obtain rfl := q_141
          have hP : va_P (dC, dI) vwCl (rW g ty Y pa kp ks I tl ac wr tw) H := hP
          have hD : va_D A (rW g ty Y pa kp ks I tl ac wr tw) := hD
          refine lv_l2i (v := ((Y.2.2.2.2.2.1 (Y.2.1 (pa a0.toNatClampNeg).toNatClampNeg + b0).toNatClampNeg).toInt32)) hx hb dX12_rows_414 rfl ?_
          refine lv_topi (fun x9 ex90 => ?_)
          have ex9 : x9 = ((Y.2.2.2.2.2.1 (Y.2.1 (pa a0.toNatClampNeg).toNatClampNeg + b0).toNatClampNeg).toInt32) := ex90
          have hl9 := (hvt.2.2.2 _ f_140).2
          have hx9 := ll_some hl9 g7
          rw [← ex9] at hx9
          have hm9 := wf.2.2.2.2.1 _ _ _ (wf_arr wf tht.1 kt g5).1 (wf_arr wf tht.1 kt g5).2 g7
          have ko9 := kc_8 wf tht.1 tht.2 f_130 g5 g7
          have kq := cIs_0 (ki_row0 wf hm9.1 hm9.2 ko9)
          have hvq := rv_row rel hx9.1 hx9.2.1 hx9.2.2 kq g8
          have hne9 := (i32_pos hx9.1).2.1
          refine lv_istore (lv' := [(6, .int x9), (5, .int (b0 &&& 7)), (0, .ref (g 8)), (1, .int 6), (2, .int a0), (3, .int b0), (4, .int c0)]) hx hb dX12_rows_415 hl (by decide) rfl (fun ls hl => ?_)
          refine lv_iload hx hb dX12_rows_417 (lv_at hl 0 rfl) ?_
          refine lv_if_ne (tgt := 433) hx hb dX12_rows_419 (by decide) (fun _ => ?_) (fun c9 => absurd c9 hne9)
          refine lv_aload_n hx hb dX12_rows_433 rfl (lv_at hl 2 rfl) ?_
          refine lv_iload hx hb dX12_rows_434 (lv_at hl 0 rfl) ?_
          refine lv_iload hx hb dX12_rows_436 (lv_at hl 6 rfl) ?_
          refine cV_i (C := RX12) (n := 2) (rest := []) hx hb hml hown hg hT (c_X12_indexN l dC dI g ty H.size Y pa kp ks I tl ac wr tw (P.2.2.2.2.2.1 z) x9 c0 (by exact hvq.1) (by exact hvq.2.1) (by exact hvq.2.2.1)) (cv_of hg wM_X12_137 wN_X12_index wL_X12_X12_index wK_X12_index wI_X12 (by decide +kernel) ⟨Nat.le_of_ble_eq_true rfl, Nat.le_of_ble_eq_true rfl⟩) hK hP hD hS hA (va_recv hK hP (ci := 14) (q0 := 0) rfl rfl) rfl hl.1 rfl (Nat.le_of_ble_eq_true rfl) dX12_rows_438 ⟨Nat.le_of_ble_eq_true rfl, Nat.le_of_ble_eq_true rfl⟩ (fun r_145 u_146 H locs q_144 hP hD hS => ?_)
          rcases q_144 with ⟨rfl, rfl, f_147⟩ | ⟨rfl, rfl, f_148⟩
          · show _
            have hP : va_P (dC, dI) vwCl (rW g ty Y pa kp ks I tl ac 2 tw) H := hP
            have hD : va_D A (rW g ty Y pa kp ks I tl ac 2 tw) := hD
            refine lv_if_ne (tgt := 449) hx hb dX12_rows_441 (by decide) (fun c9 => absurd (by decide) c9) (fun _ => ?_)
            refine lv_aload_n hx hb dX12_rows_444 rfl (lv_at hl 2 rfl) ?_
            refine cV_l (C := RX12) (n := 0) (rest := []) hx hb hml hown hg hT (c_X12_no l dC dI g ty H.size Y pa kp ks I tl ac 2 tw  ) (cv_of hg wM_X12_107 wN_X12_no wL_X12_X12_no wK_X12_no wI_X12 (by decide +kernel) ⟨Nat.le_of_ble_eq_true rfl, Nat.le_of_ble_eq_true rfl⟩) hK hP hD hS hA (va_recv hK hP (ci := 14) (q0 := 0) rfl rfl) rfl hl.1 rfl (Nat.le_of_ble_eq_true rfl) dX12_rows_445 ⟨Nat.le_of_ble_eq_true rfl, Nat.le_of_ble_eq_true rfl⟩ (fun r_150 u_151 H locs q_149 hP hD hS => ?_)
            obtain ⟨rfl, rfl⟩ := q_149
            have hP : va_P (dC, dI) vwCl (rW g ty Y pa kp ks I tl ac 2 1) H := hP
            have hD : va_D A (rW g ty Y pa kp ks I tl ac 2 1) := hD
            refine cr_l (wo := fun u : rY × (Nat → Int32) × (Nat → Int32) × (Nat → Int32) × Int32 × Int32 => rW g ty u.1 u.2.1 u.2.2.1 ks I u.2.2.2.1 ac u.2.2.2.2.1 u.2.2.2.2.2) ((Y, pa, kp, tl, 2, 1)) hx hb hr hlk hS hP hD ?_ dX12_rows_448
            exact ⟨0, Y, pa, kp, tl, 2, 1, rfl, rfl, (by exact ra_f (f := 2) rel hcnt htl (by decide))⟩
          · show _
            exact absurd f_148 (by assumption)
  · show _
    obtain ⟨n1t, n2t, n3t⟩ := rk_some rel g2 g3
    have hnet := (i32_pos n1t).2.1
    have tht := wf.1 _ _ g3
    have kt := cIs_1 (ki_8 wf tht.1 tht.2 g4)
    have hvt := rv_shelf rel n1t n2t n3t kt g5
    have hl : lv_has ls 8 [(0, .ref (g 8)), (1, .int 6), (2, .int a0), (3, .int b0), (4, .int c0)] := hl
    refine lv_iload_n hx hb dX12_rows_0 rfl (lv_at hl 3 rfl) ?_
    refine lv_bipush (v := 7) hx hb dX12_rows_1 (by decide) ?_
    refine lv_iand hx hb dX12_rows_3 ?_
    refine lv_istore (lv' := [(5, .int (b0 &&& 7)), (0, .ref (g 8)), (1, .int 6), (2, .int a0), (3, .int b0), (4, .int c0)]) hx hb dX12_rows_4 hl (by decide) rfl (fun ls hl => ?_)
    refine lv_iload_n hx hb dX12_rows_6 rfl (lv_at hl 2 rfl) ?_
    refine lv_tableIn (off := 359) (tgt := 366) hx hb dX12_rows_7 (by decide) (by decide) (by decide) (by decide) ?_
    refine lv_aload_n hx hb dX12_rows_366 rfl (lv_at hl 1 rfl) ?_
    refine lv_iload_n hx hb dX12_rows_367 rfl (lv_at hl 3 rfl) ?_
    refine lv_bipush (v := 8) hx hb dX12_rows_368 (by decide) ?_
    refine cV_i (C := RX12) (n := 2) (rest := []) hx hb hml hown hg hT (c_X12_thing l dC dI g ty s.heap.size Y pa kp ks I tl ac wr tw ρ pl P a0 8 (by exact rel) (by exact wf) (by exact i32_in (by decide) (by decide))) (cv_of hg wM_X12_131 wN_X12_thing wL_X12_X12_thing wK_X12_thing wI_X12 (by decide +kernel) ⟨Nat.le_of_ble_eq_true rfl, Nat.le_of_ble_eq_true rfl⟩) hK hP hD hS hA (va_recv hK hP (ci := 14) (q0 := 0) rfl rfl) rfl hl.1 rfl (Nat.le_of_ble_eq_true rfl) dX12_rows_370 ⟨Nat.le_of_ble_eq_true rfl, Nat.le_of_ble_eq_true rfl⟩ (fun r_153 u_154 H locs q_152 hP hD hS => ?_)
    rcases q_152 with ⟨rfl, rfl, f_155⟩ | ⟨t_156, rfl, rfl, f_157, f_158, f_159⟩ | ⟨rfl, rfl, f_160, f_161⟩ | ⟨t_162, rfl, rfl, f_163, f_164, f_165⟩
    · show _
      exact absurd (by assumption) f_155
    · show _
      obtain rfl := Option.some.inj (g3.symm.trans f_158); exact absurd (g4.symm.trans f_159) (by decide)
    · show _
      exact absurd (g3.symm.trans f_161) (by simp)
    · show _
      obtain rfl := Option.some.inj (g3.symm.trans f_164)
      have hP : va_P (dC, dI) vwCl (rW g ty Y pa kp ks I tl ac wr tw) H := hP
      have hD : va_D A (rW g ty Y pa kp ks I tl ac wr tw) := hD
      refine lv_if_eq (tgt := 398) hx hb dX12_rows_373 (by decide) (fun c9 => absurd c9 (by decide)) (fun _ => ?_)
      refine lv_aload_n hx hb dX12_rows_376 rfl (lv_at hl 1 rfl) ?_
      refine lv_iload_n hx hb dX12_rows_377 rfl (lv_at hl 3 rfl) ?_
      refine cV_i (C := RX12) (n := 1) (rest := []) hx hb hml hown hg hT (c_X12_need l dC dI g ty H.size Y pa kp ks I tl ac wr tw a0 (by assumption)) (cv_of hg wM_X12_134 wN_X12_need wL_X12_X12_need wK_X12_need wI_X12 (by decide +kernel) ⟨Nat.le_of_ble_eq_true rfl, Nat.le_of_ble_eq_true rfl⟩) hK hP hD hS hA (va_recv hK hP (ci := 14) (q0 := 0) rfl rfl) rfl hl.1 rfl (Nat.le_of_ble_eq_true rfl) dX12_rows_378 ⟨Nat.le_of_ble_eq_true rfl, Nat.le_of_ble_eq_true rfl⟩ (fun r_167 u_168 H locs q_166 hP hD hS => ?_)
      rcases q_166 with ⟨rfl, rfl, f_169⟩ | ⟨rfl, rfl, f_170⟩
      · show _
        exact absurd f_169 (by assumption)
      · show _
        have hP : va_P (dC, dI) vwCl (rW g ty Y pa kp ks I tl ac wr tw) H := hP
        have hD : va_D A (rW g ty Y pa kp ks I tl ac wr tw) := hD
        refine lv_if_eq (tgt := 398) hx hb dX12_rows_381 (by decide) (fun c9 => absurd c9 (by decide)) (fun _ => ?_)
        refine lv_aload_n hx hb dX12_rows_384 rfl (lv_at hl 1 rfl) ?_
        refine lv_aload_n hx hb dX12_rows_385 rfl (lv_at hl 1 rfl) ?_
        refine va_get (D := (dC, dI)) (ci := 14) (v := .ref (g 9)) (C := RX12) (T := TX12) (N := 21) hx hb hg inG12 hown hK hP 0 rfl rfl 8 (by decide) (hg _ wF_X12_34) (fun _ h9 => h9) rfl dX12_rows_386 ?_
        refine lv_iload_n hx hb dX12_rows_389 rfl (lv_at hl 3 rfl) ?_
        refine va_iald hx hb hK hP 7 0 rfl rfl (by assumption) dX12_rows_390 ?_
        refine lv_iload_n hx hb dX12_rows_391 rfl (lv_at hl 4 rfl) ?_
        refine cV_i (C := RX12) (n := 2) (rest := []) hx hb hml hown hg hT (c_X12_indexN l dC dI g ty H.size Y pa kp ks I tl ac wr tw (P.2.2.2.2.2.1 y) (pa a0.toNatClampNeg) b0 (by exact hvt.1) (by exact hvt.2.1) (by exact hvt.2.2.1)) (cv_of hg wM_X12_137 wN_X12_index wL_X12_X12_index wK_X12_index wI_X12 (by decide +kernel) ⟨Nat.le_of_ble_eq_true rfl, Nat.le_of_ble_eq_true rfl⟩) hK hP hD hS hA (va_recv hK hP (ci := 14) (q0 := 0) rfl rfl) rfl hl.1 rfl (Nat.le_of_ble_eq_true rfl) dX12_rows_392 ⟨Nat.le_of_ble_eq_true rfl, Nat.le_of_ble_eq_true rfl⟩ (fun r_172 u_173 H locs q_171 hP hD hS => ?_)
        rcases q_171 with ⟨rfl, rfl, f_174⟩ | ⟨rfl, rfl, f_175⟩
        · show _
          exact absurd (by assumption) f_174
        · show _
          have hP : va_P (dC, dI) vwCl (rW g ty Y pa kp ks I tl ac wr tw) H := hP
          have hD : va_D A (rW g ty Y pa kp ks I tl ac wr tw) := hD
          refine lv_if_ne (tgt := 403) hx hb dX12_rows_395 (by decide) (fun _ => ?_) (fun c9 => absurd c9 (by decide)) 
          refine lv_aload_n hx hb dX12_rows_403 rfl (lv_at hl 1 rfl) ?_
          refine lv_aload_n hx hb dX12_rows_404 rfl (lv_at hl 1 rfl) ?_
          refine va_get (D := (dC, dI)) (ci := 14) (v := .ref (g 9)) (C := RX12) (T := TX12) (N := 21) hx hb hg inG12 hown hK hP 0 rfl rfl 8 (by decide) (hg _ wF_X12_34) (fun _ h9 => h9) rfl dX12_rows_405 ?_
          refine lv_iload_n hx hb dX12_rows_408 rfl (lv_at hl 3 rfl) ?_
          refine va_iald hx hb hK hP 7 0 rfl rfl (by assumption) dX12_rows_409 ?_
          refine lv_iload_n hx hb dX12_rows_410 rfl (lv_at hl 4 rfl) ?_
          refine cV_l (C := RX12) (n := 2) (rest := []) hx hb hml hown hg hT (c_X12_cell l dC dI g ty H.size Y pa kp ks I tl ac wr tw (pa a0.toNatClampNeg) b0 (by exact hvt.1) (by exact (hvt.2.2.2 _ (by assumption)).1)) (cv_of hg wM_X12_140 wN_X12_cell wL_X12_X12_cell wK_X12_cell wI_X12 (by decide +kernel) ⟨Nat.le_of_ble_eq_true rfl, Nat.le_of_ble_eq_true rfl⟩) hK hP hD hS hA (va_recv hK hP (ci := 14) (q0 := 0) rfl rfl) rfl hl.1 rfl (Nat.le_of_ble_eq_true rfl) dX12_rows_411 ⟨Nat.le_of_ble_eq_true rfl, Nat.le_of_ble_eq_true rfl⟩ (fun r_177 u_178 H locs q_176 hP hD hS => ?_)
          obtain rfl := q_176
          have hP : va_P (dC, dI) vwCl (rW g ty Y pa kp ks I tl ac wr tw) H := hP
          have hD : va_D A (rW g ty Y pa kp ks I tl ac wr tw) := hD
          refine lv_l2i (v := ((Y.2.2.2.2.2.1 (Y.2.1 (pa a0.toNatClampNeg).toNatClampNeg + b0).toNatClampNeg).toInt32)) hx hb dX12_rows_414 rfl ?_
          refine lv_topi (fun x9 ex90 => ?_)
          have ex9 : x9 = ((Y.2.2.2.2.2.1 (Y.2.1 (pa a0.toNatClampNeg).toNatClampNeg + b0).toNatClampNeg).toInt32) := ex90
          have hl9 := (hvt.2.2.2 _ f_175).2
          have hx9 := ll_some hl9 g7
          rw [← ex9] at hx9
          have hm9 := wf.2.2.2.2.1 _ _ _ (wf_arr wf tht.1 kt g5).1 (wf_arr wf tht.1 kt g5).2 g7
          have ko9 := kc_8 wf tht.1 tht.2 f_165 g5 g7
          have kq := cIs_0 (ki_row0 wf hm9.1 hm9.2 ko9)
          have hvq := rv_row rel hx9.1 hx9.2.1 hx9.2.2 kq g8
          have hne9 := (i32_pos hx9.1).2.1
          refine lv_istore (lv' := [(6, .int x9), (5, .int (b0 &&& 7)), (0, .ref (g 8)), (1, .int 6), (2, .int a0), (3, .int b0), (4, .int c0)]) hx hb dX12_rows_415 hl (by decide) rfl (fun ls hl => ?_)
          refine lv_iload hx hb dX12_rows_417 (lv_at hl 0 rfl) ?_
          refine lv_if_ne (tgt := 433) hx hb dX12_rows_419 (by decide) (fun _ => ?_) (fun c9 => absurd c9 hne9)
          refine lv_aload_n hx hb dX12_rows_433 rfl (lv_at hl 2 rfl) ?_
          refine lv_iload hx hb dX12_rows_434 (lv_at hl 0 rfl) ?_
          refine lv_iload hx hb dX12_rows_436 (lv_at hl 6 rfl) ?_
          refine cV_i (C := RX12) (n := 2) (rest := []) hx hb hml hown hg hT (c_X12_indexN l dC dI g ty H.size Y pa kp ks I tl ac wr tw (P.2.2.2.2.2.1 z) x9 c0 (by exact hvq.1) (by exact hvq.2.1) (by exact hvq.2.2.1)) (cv_of hg wM_X12_137 wN_X12_index wL_X12_X12_index wK_X12_index wI_X12 (by decide +kernel) ⟨Nat.le_of_ble_eq_true rfl, Nat.le_of_ble_eq_true rfl⟩) hK hP hD hS hA (va_recv hK hP (ci := 14) (q0 := 0) rfl rfl) rfl hl.1 rfl (Nat.le_of_ble_eq_true rfl) dX12_rows_438 ⟨Nat.le_of_ble_eq_true rfl, Nat.le_of_ble_eq_true rfl⟩ (fun r_180 u_181 H locs q_179 hP hD hS => ?_)
          rcases q_179 with ⟨rfl, rfl, f_182⟩ | ⟨rfl, rfl, f_183⟩
          · show _
            exact absurd (by assumption) f_182
          · show _
            have hP : va_P (dC, dI) vwCl (rW g ty Y pa kp ks I tl ac wr tw) H := hP
            have hD : va_D A (rW g ty Y pa kp ks I tl ac wr tw) := hD
            refine lv_if_ne (tgt := 449) hx hb dX12_rows_441 (by decide) (fun _ => ?_) (fun c9 => absurd c9 (by decide)) 
            refine lv_iload_n hx hb dX12_rows_449 rfl (lv_at hl 3 rfl) ?_
            refine lv_iconst (v := 5) hx hb dX12_rows_450 (by decide) ?_
            refine lv_icmp_ne (tgt := 463) hx hb dX12_rows_451 (by decide) (fun _ => ?_) (fun c9 => absurd c9 (by decide)) 
            refine lv_aload_n hx hb dX12_rows_463 rfl (lv_at hl 2 rfl) ?_
            refine lv_iload hx hb dX12_rows_464 (lv_at hl 0 rfl) ?_
            refine lv_iload hx hb dX12_rows_466 (lv_at hl 6 rfl) ?_
            refine lv_aload_n hx hb dX12_rows_468 rfl (lv_at hl 2 rfl) ?_
            refine va_get (D := (dC, dI)) (ci := 14) (v := .long ac) (C := RX12) (T := TX12) (N := 21) hx hb hg inG12 hown hK hP 0 rfl rfl 13 (by decide) (hg _ wF_X12_143) (fun _ h9 => h9) rfl dX12_rows_469 ?_
            refine lv_l2i (v := (ac.toInt32)) hx hb dX12_rows_472 rfl ?_
            refine lv_i2l (v := ((ac.toInt32).toInt64)) hx hb dX12_rows_473 rfl ?_
            refine cV_v (C := RX12) (n := 3) (rest := []) hx hb hml hown hg hT (c_X12_put l dC dI g ty H.size Y pa kp ks I tl ac wr tw x9 c0 ((ac.toInt32).toInt64) (by exact hvq.1) (by exact (hvq.2.2.2 _ (by assumption)).1)) (cv_of hg wM_X12_151 wN_X12_put wL_X12_X12_put wK_X12_put wI_X12 (by decide +kernel) ⟨Nat.le_of_ble_eq_true rfl, Nat.le_of_ble_eq_true rfl⟩) hK hP hD hS hA (va_recv hK hP (ci := 14) (q0 := 0) rfl rfl) rfl hl.1 rfl (Nat.le_of_ble_eq_true rfl) dX12_rows_474 ⟨Nat.le_of_ble_eq_true rfl, Nat.le_of_ble_eq_true rfl⟩ (fun u_186 H locs q_184 hP hD hS => ?_)
            obtain rfl := q_184
            have hP : va_P (dC, dI) vwCl (rW g ty (Y.1, Y.2.1, Y.2.2.1, Y.2.2.2.1, Y.2.2.2.2.1, (vp_updL Y.2.2.2.2.2.1 (Y.2.1 x9.toNatClampNeg + c0).toNatClampNeg ((ac.toInt32).toInt64)), Y.2.2.2.2.2.2.1, Y.2.2.2.2.2.2.2.1, Y.2.2.2.2.2.2.2.2.1, Y.2.2.2.2.2.2.2.2.2.1, Y.2.2.2.2.2.2.2.2.2.2) pa kp ks I tl ac wr tw) H := hP
            have hD : va_D A (rW g ty (Y.1, Y.2.1, Y.2.2.1, Y.2.2.2.1, Y.2.2.2.2.1, (vp_updL Y.2.2.2.2.2.1 (Y.2.1 x9.toNatClampNeg + c0).toNatClampNeg ((ac.toInt32).toInt64)), Y.2.2.2.2.2.2.1, Y.2.2.2.2.2.2.2.1, Y.2.2.2.2.2.2.2.2.1, Y.2.2.2.2.2.2.2.2.2.1, Y.2.2.2.2.2.2.2.2.2.2) pa kp ks I tl ac wr tw) := hD
            refine lv_lconst (v := 0) hx hb dX12_rows_477 (by decide) ?_
            refine cr_l (wo := fun u : rY × (Nat → Int32) × (Nat → Int32) × (Nat → Int32) × Int32 × Int32 => rW g ty u.1 u.2.1 u.2.2.1 ks I u.2.2.2.1 ac u.2.2.2.2.1 u.2.2.2.2.2) (((Y.1, Y.2.1, Y.2.2.1, Y.2.2.2.1, Y.2.2.2.2.1, (vp_updL Y.2.2.2.2.2.1 (Y.2.1 x9.toNatClampNeg + c0).toNatClampNeg ((ac.toInt32).toInt64)), Y.2.2.2.2.2.2.1, Y.2.2.2.2.2.2.2.1, Y.2.2.2.2.2.2.2.2.1, Y.2.2.2.2.2.2.2.2.2.1, Y.2.2.2.2.2.2.2.2.2.2), pa, kp, tl, wr, tw)) hx hb hr hlk hS hP hD ?_ dX12_rows_478
            exact ⟨0, (Y.1, Y.2.1, Y.2.2.1, Y.2.2.2.1, Y.2.2.2.2.1, (vp_updL Y.2.2.2.2.2.1 (Y.2.1 x9.toNatClampNeg + c0).toNatClampNeg ((ac.toInt32).toInt64)), Y.2.2.2.2.2.2.1, Y.2.2.2.2.2.2.2.1, Y.2.2.2.2.2.2.2.2.1, Y.2.2.2.2.2.2.2.2.2.1, Y.2.2.2.2.2.2.2.2.2.2), pa, kp, tl, wr, tw, rfl, rfl, (by subst pre6; have hkv : P.2.2.1 q = 0 := row_kv kq ko9; exact ra_w (by rw [hkv, aCell_0]; exact rw_row wf rel hx9.1 hx9.2.1 hx9.2.2 kq g8 (by assumption) rfl) ⟨rfl, rfl, rfl, rfl⟩ hcnt htl rfl)⟩
set_option maxHeartbeats 800000 in
set_option maxRecDepth 100000 in
theorem c_X12_rows_8 (l : Launch) (dC : Nat → ClassId) (dI : Nat → Nat → Nat) (g : Nat → Nat) (ty : Nat → ClassId) (sz : Nat) (Y : rY) (pa : Nat → Int32) (kp : Nat → Int32) (ks : Int32) (I : rI) (tl : Nat → Int32) (ac : Int64) (wr : Int32) (tw : Int32) (ρ : Nat → Nat) (pl : Nat → Option Nat) (P : cQ) (md : Int32) (Z : cZ) (rz9 : Int64) (u9 : Int32 × cQ) (a0 : Int32) (b0 : Int32) (c0 : Int32) (pre0 : rR Y.2.2.2.2.2.2.2.2.2.1 Y pa ρ pl P) (pre1 : cWF pl P) (pre2 : ks = 0) (pre3 : rCnt Y md) (pre4 : tl 5 = md) (pre5 : 0 ≤ md ∧ md ≤ 6000) (pre6 : tw = 0) (pre7 : q_X11_putIn 8 0 a0 b0 c0 pl ac (-1) md Z P rz9 u9) : Met l yX12_rows (Cond.code yX12_rows cX12_rows 8 (some .long) :: gT) ({ frames := 3, cells := 0, slots := 0, locals := 82 }) (cP (dC, dI) (rTy ty) (rW g ty Y pa kp ks I tl ac wr tw) sz [.ref (g 8), .int 8, .int a0, .int b0, .int c0]) (va_Ql (fun (rz : Int64) (u : rY × (Nat → Int32) × (Nat → Int32) × (Nat → Int32) × Int32 × Int32) => ∃ (r' : Int64) (Y' : rY) (pa' kp' tl' : Nat → Int32) (wr' tw' : Int32), r' = rz ∧ (Y', pa', kp', tl', wr', tw') = u ∧ rAns u9.1 rz9 pl u9.2 md tl Y r' Y' pa' tl' wr' tw') (cB (dC, dI) (fun u : rY × (Nat → Int32) × (Nat → Int32) × (Nat → Int32) × Int32 × Int32 => rW g ty u.1 u.2.1 u.2.2.1 ks I u.2.2.2.1 ac u.2.2.2.2.1 u.2.2.2.2.2) (va_A (rW g ty Y pa kp ks I tl ac wr tw) sz)) (va_A (rW g ty Y pa kp ks I tl ac wr tw) sz)) 0 0 (va_A (rW g ty Y pa kp ks I tl ac wr tw) sz) := by
  refine cc_of (Qa := fun A => va_Ql (fun (rz : Int64) (u : rY × (Nat → Int32) × (Nat → Int32) × (Nat → Int32) × Int32 × Int32) => ∃ (r' : Int64) (Y' : rY) (pa' kp' tl' : Nat → Int32) (wr' tw' : Int32), r' = rz ∧ (Y', pa', kp', tl', wr', tw') = u ∧ rAns u9.1 rz9 pl u9.2 md tl Y r' Y' pa' tl' wr' tw') (cB (dC, dI) (fun u : rY × (Nat → Int32) × (Nat → Int32) × (Nat → Int32) × Int32 × Int32 => rW g ty u.1 u.2.1 u.2.2.1 ks I u.2.2.2.1 ac u.2.2.2.2.1 u.2.2.2.2.2) A) A) (by decide) (Nat.le_of_ble_eq_true rfl) ?_
  intro p e s m below meth c A hx hb hr hml hown hg hlk hmn hP hK hD hT hS hA hsz ls hl
  have hown : s.vm.findClass RX12 = some m.cls := hown
  have rel := pre0
  have wf := pre1
  have hcnt := pre3
  have htl := pre4
  rcases pre7 with ⟨rfl, rfl, g2⟩ | ⟨t, rfl, rfl, g2, g3, g4⟩ | ⟨rfl, rfl, g2, (g3 | ⟨q3, g3, g3x0⟩), g4⟩ | ⟨t, rfl, rfl, g2, (g3 | ⟨q3, g3, g3x0⟩), g4, g5, g6⟩ | ⟨rfl, rfl, g2, g3, g4, (g5 | ⟨q5, g5, g5x0⟩)⟩ | ⟨t, y, rfl, rfl, g2, g3, g4, g5, (g6 | ⟨q6, g6, g6x0⟩), g7, g8⟩ | ⟨t, y, q, rfl, rfl, g2, g3, g4, g5, g6, g7, g8, g9, g10⟩ | ⟨t, y, o, rfl, rfl, g2, g3, g4, g5, g6, g7, g8, (rfl | ⟨q9, rfl, g9x0, g9x1⟩)⟩
  · show _
    have hl : lv_has ls 8 [(0, .ref (g 8)), (1, .int 8), (2, .int a0), (3, .int b0), (4, .int c0)] := hl
    refine lv_iload_n hx hb dX12_rows_0 rfl (lv_at hl 3 rfl) ?_
    refine lv_bipush (v := 7) hx hb dX12_rows_1 (by decide) ?_
    refine lv_iand hx hb dX12_rows_3 ?_
    refine lv_istore (lv' := [(5, .int (b0 &&& 7)), (0, .ref (g 8)), (1, .int 8), (2, .int a0), (3, .int b0), (4, .int c0)]) hx hb dX12_rows_4 hl (by decide) rfl (fun ls hl => ?_)
    refine lv_iload_n hx hb dX12_rows_6 rfl (lv_at hl 2 rfl) ?_
    refine lv_tableOut (tgt := 546) hx hb dX12_rows_7 (by decide) (by decide) ?_
    refine lv_aload_n hx hb dX12_rows_546 rfl (lv_at hl 1 rfl) ?_
    refine lv_iload_n hx hb dX12_rows_547 rfl (lv_at hl 3 rfl) ?_
    refine lv_bipush (v := 8) hx hb dX12_rows_548 (by decide) ?_
    refine cV_i (C := RX12) (n := 2) (rest := []) hx hb hml hown hg hT (c_X12_thing l dC dI g ty s.heap.size Y pa kp ks I tl ac wr tw ρ pl P a0 8 (by exact rel) (by exact wf) (by exact i32_in (by decide) (by decide))) (cv_of hg wM_X12_131 wN_X12_thing wL_X12_X12_thing wK_X12_thing wI_X12 (by decide +kernel) ⟨Nat.le_of_ble_eq_true rfl, Nat.le_of_ble_eq_true rfl⟩) hK hP hD hS hA (va_recv hK hP (ci := 14) (q0 := 0) rfl rfl) rfl hl.1 rfl (Nat.le_of_ble_eq_true rfl) dX12_rows_550 ⟨Nat.le_of_ble_eq_true rfl, Nat.le_of_ble_eq_true rfl⟩ (fun r_2 u_3 H locs q_1 hP hD hS => ?_)
    rcases q_1 with ⟨rfl, rfl, f_4⟩ | ⟨t_5, rfl, rfl, f_6, f_7, f_8⟩ | ⟨rfl, rfl, f_9, f_10⟩ | ⟨t_11, rfl, rfl, f_12, f_13, f_14⟩
    · show _
      have hP : va_P (dC, dI) vwCl (rW g ty Y pa kp ks I tl ac 2 tw) H := hP
      have hD : va_D A (rW g ty Y pa kp ks I tl ac 2 tw) := hD
      refine lv_if_eq (tgt := 588) hx hb dX12_rows_553 (by decide) (fun _ => ?_) (fun c9 => absurd (by decide) c9) 
      refine lv_aload_n hx hb dX12_rows_588 rfl (lv_at hl 1 rfl) ?_
      refine cV_l (C := RX12) (n := 0) (rest := []) hx hb hml hown hg hT (c_X12_no l dC dI g ty H.size Y pa kp ks I tl ac 2 tw  ) (cv_of hg wM_X12_107 wN_X12_no wL_X12_X12_no wK_X12_no wI_X12 (by decide +kernel) ⟨Nat.le_of_ble_eq_true rfl, Nat.le_of_ble_eq_true rfl⟩) hK hP hD hS hA (va_recv hK hP (ci := 14) (q0 := 0) rfl rfl) rfl hl.1 rfl (Nat.le_of_ble_eq_true rfl) dX12_rows_589 ⟨Nat.le_of_ble_eq_true rfl, Nat.le_of_ble_eq_true rfl⟩ (fun r_16 u_17 H locs q_15 hP hD hS => ?_)
      obtain ⟨rfl, rfl⟩ := q_15
      have hP : va_P (dC, dI) vwCl (rW g ty Y pa kp ks I tl ac 2 1) H := hP
      have hD : va_D A (rW g ty Y pa kp ks I tl ac 2 1) := hD
      refine cr_l (wo := fun u : rY × (Nat → Int32) × (Nat → Int32) × (Nat → Int32) × Int32 × Int32 => rW g ty u.1 u.2.1 u.2.2.1 ks I u.2.2.2.1 ac u.2.2.2.2.1 u.2.2.2.2.2) ((Y, pa, kp, tl, 2, 1)) hx hb hr hlk hS hP hD ?_ dX12_rows_592
      exact ⟨0, Y, pa, kp, tl, 2, 1, rfl, rfl, (by exact ra_f (f := 2) rel hcnt htl (by decide))⟩
    · show _
      exact absurd f_6 (by assumption)
    · show _
      exact absurd f_9 (by assumption)
    · show _
      exact absurd f_12 (by assumption)
  · show _
    obtain ⟨n1t, n2t, n3t⟩ := rk_some rel g2 g3
    have hnet := (i32_pos n1t).2.1
    have tht := wf.1 _ _ g3
    have hl : lv_has ls 8 [(0, .ref (g 8)), (1, .int 8), (2, .int a0), (3, .int b0), (4, .int c0)] := hl
    refine lv_iload_n hx hb dX12_rows_0 rfl (lv_at hl 3 rfl) ?_
    refine lv_bipush (v := 7) hx hb dX12_rows_1 (by decide) ?_
    refine lv_iand hx hb dX12_rows_3 ?_
    refine lv_istore (lv' := [(5, .int (b0 &&& 7)), (0, .ref (g 8)), (1, .int 8), (2, .int a0), (3, .int b0), (4, .int c0)]) hx hb dX12_rows_4 hl (by decide) rfl (fun ls hl => ?_)
    refine lv_iload_n hx hb dX12_rows_6 rfl (lv_at hl 2 rfl) ?_
    refine lv_tableOut (tgt := 546) hx hb dX12_rows_7 (by decide) (by decide) ?_
    refine lv_aload_n hx hb dX12_rows_546 rfl (lv_at hl 1 rfl) ?_
    refine lv_iload_n hx hb dX12_rows_547 rfl (lv_at hl 3 rfl) ?_
    refine lv_bipush (v := 8) hx hb dX12_rows_548 (by decide) ?_
    refine cV_i (C := RX12) (n := 2) (rest := []) hx hb hml hown hg hT (c_X12_thing l dC dI g ty s.heap.size Y pa kp ks I tl ac wr tw ρ pl P a0 8 (by exact rel) (by exact wf) (by exact i32_in (by decide) (by decide))) (cv_of hg wM_X12_131 wN_X12_thing wL_X12_X12_thing wK_X12_thing wI_X12 (by decide +kernel) ⟨Nat.le_of_ble_eq_true rfl, Nat.le_of_ble_eq_true rfl⟩) hK hP hD hS hA (va_recv hK hP (ci := 14) (q0 := 0) rfl rfl) rfl hl.1 rfl (Nat.le_of_ble_eq_true rfl) dX12_rows_550 ⟨Nat.le_of_ble_eq_true rfl, Nat.le_of_ble_eq_true rfl⟩ (fun r_19 u_20 H locs q_18 hP hD hS => ?_)
    rcases q_18 with ⟨rfl, rfl, f_21⟩ | ⟨t_22, rfl, rfl, f_23, f_24, f_25⟩ | ⟨rfl, rfl, f_26, f_27⟩ | ⟨t_28, rfl, rfl, f_29, f_30, f_31⟩
    · show _
      exact absurd (by assumption) f_21
    · show _
      obtain rfl := Option.some.inj (g3.symm.trans f_24)
      have hP : va_P (dC, dI) vwCl (rW g ty Y pa kp ks I tl ac 3 tw) H := hP
      have hD : va_D A (rW g ty Y pa kp ks I tl ac 3 tw) := hD
      refine lv_if_eq (tgt := 588) hx hb dX12_rows_553 (by decide) (fun _ => ?_) (fun c9 => absurd (by decide) c9) 
      refine lv_aload_n hx hb dX12_rows_588 rfl (lv_at hl 1 rfl) ?_
      refine cV_l (C := RX12) (n := 0) (rest := []) hx hb hml hown hg hT (c_X12_no l dC dI g ty H.size Y pa kp ks I tl ac 3 tw  ) (cv_of hg wM_X12_107 wN_X12_no wL_X12_X12_no wK_X12_no wI_X12 (by decide +kernel) ⟨Nat.le_of_ble_eq_true rfl, Nat.le_of_ble_eq_true rfl⟩) hK hP hD hS hA (va_recv hK hP (ci := 14) (q0 := 0) rfl rfl) rfl hl.1 rfl (Nat.le_of_ble_eq_true rfl) dX12_rows_589 ⟨Nat.le_of_ble_eq_true rfl, Nat.le_of_ble_eq_true rfl⟩ (fun r_33 u_34 H locs q_32 hP hD hS => ?_)
      obtain ⟨rfl, rfl⟩ := q_32
      have hP : va_P (dC, dI) vwCl (rW g ty Y pa kp ks I tl ac 3 1) H := hP
      have hD : va_D A (rW g ty Y pa kp ks I tl ac 3 1) := hD
      refine cr_l (wo := fun u : rY × (Nat → Int32) × (Nat → Int32) × (Nat → Int32) × Int32 × Int32 => rW g ty u.1 u.2.1 u.2.2.1 ks I u.2.2.2.1 ac u.2.2.2.2.1 u.2.2.2.2.2) ((Y, pa, kp, tl, 3, 1)) hx hb hr hlk hS hP hD ?_ dX12_rows_592
      exact ⟨0, Y, pa, kp, tl, 3, 1, rfl, rfl, (by exact ra_f (f := 3) rel hcnt htl (by decide))⟩
    · show _
      exact absurd (g3.symm.trans f_27) (by simp)
    · show _
      obtain rfl := Option.some.inj (g3.symm.trans f_30); exact absurd (g4.symm.trans f_31) (by decide)
  · show _
    have hza0 := rk_none rel g2 g3
    have hl : lv_has ls 8 [(0, .ref (g 8)), (1, .int 8), (2, .int a0), (3, .int b0), (4, .int c0)] := hl
    refine lv_iload_n hx hb dX12_rows_0 rfl (lv_at hl 3 rfl) ?_
    refine lv_bipush (v := 7) hx hb dX12_rows_1 (by decide) ?_
    refine lv_iand hx hb dX12_rows_3 ?_
    refine lv_istore (lv' := [(5, .int (b0 &&& 7)), (0, .ref (g 8)), (1, .int 8), (2, .int a0), (3, .int b0), (4, .int c0)]) hx hb dX12_rows_4 hl (by decide) rfl (fun ls hl => ?_)
    refine lv_iload_n hx hb dX12_rows_6 rfl (lv_at hl 2 rfl) ?_
    refine lv_tableOut (tgt := 546) hx hb dX12_rows_7 (by decide) (by decide) ?_
    refine lv_aload_n hx hb dX12_rows_546 rfl (lv_at hl 1 rfl) ?_
    refine lv_iload_n hx hb dX12_rows_547 rfl (lv_at hl 3 rfl) ?_
    refine lv_bipush (v := 8) hx hb dX12_rows_548 (by decide) ?_
    refine cV_i (C := RX12) (n := 2) (rest := []) hx hb hml hown hg hT (c_X12_thing l dC dI g ty s.heap.size Y pa kp ks I tl ac wr tw ρ pl P a0 8 (by exact rel) (by exact wf) (by exact i32_in (by decide) (by decide))) (cv_of hg wM_X12_131 wN_X12_thing wL_X12_X12_thing wK_X12_thing wI_X12 (by decide +kernel) ⟨Nat.le_of_ble_eq_true rfl, Nat.le_of_ble_eq_true rfl⟩) hK hP hD hS hA (va_recv hK hP (ci := 14) (q0 := 0) rfl rfl) rfl hl.1 rfl (Nat.le_of_ble_eq_true rfl) dX12_rows_550 ⟨Nat.le_of_ble_eq_true rfl, Nat.le_of_ble_eq_true rfl⟩ (fun r_36 u_37 H locs q_35 hP hD hS => ?_)
    rcases q_35 with ⟨rfl, rfl, f_38⟩ | ⟨t_39, rfl, rfl, f_40, f_41, f_42⟩ | ⟨rfl, rfl, f_43, f_44⟩ | ⟨t_45, rfl, rfl, f_46, f_47, f_48⟩
    · show _
      exact absurd (by assumption) f_38
    · show _
      exact absurd (g3.symm.trans f_41) (by simp)
    · show _
      have hP : va_P (dC, dI) vwCl (rW g ty Y pa kp ks I tl ac wr tw) H := hP
      have hD : va_D A (rW g ty Y pa kp ks I tl ac wr tw) := hD
      refine lv_if_eq (tgt := 588) hx hb dX12_rows_553 (by decide) (fun c9 => absurd c9 (by decide)) (fun _ => ?_)
      refine lv_aload_n hx hb dX12_rows_556 rfl (lv_at hl 1 rfl) ?_
      refine lv_iload hx hb dX12_rows_557 (lv_at hl 5 rfl) ?_
      refine lv_iconst (v := 0) hx hb dX12_rows_559 (by decide) ?_
      refine cV_i (C := RX12) (n := 2) (rest := []) hx hb hml hown hg hT (c_X12_thing l dC dI g ty H.size Y pa kp ks I tl ac wr tw ρ pl P c0 0 (by exact rel) (by exact wf) (by exact i32_in (by decide) (by decide))) (cv_of hg wM_X12_131 wN_X12_thing wL_X12_X12_thing wK_X12_thing wI_X12 (by decide +kernel) ⟨Nat.le_of_ble_eq_true rfl, Nat.le_of_ble_eq_true rfl⟩) hK hP hD hS hA (va_recv hK hP (ci := 14) (q0 := 0) rfl rfl) rfl hl.1 rfl (Nat.le_of_ble_eq_true rfl) dX12_rows_560 ⟨Nat.le_of_ble_eq_true rfl, Nat.le_of_ble_eq_true rfl⟩ (fun r_50 u_51 H locs q_49 hP hD hS => ?_)
      rcases q_49 with ⟨rfl, rfl, f_52⟩ | ⟨t_53, rfl, rfl, f_54, f_55, f_56⟩ | ⟨rfl, rfl, f_57, f_58⟩ | ⟨t_59, rfl, rfl, f_60, f_61, f_62⟩
      · show _
        have hP : va_P (dC, dI) vwCl (rW g ty Y pa kp ks I tl ac 2 tw) H := hP
        have hD : va_D A (rW g ty Y pa kp ks I tl ac 2 tw) := hD
        refine lv_if_eq (tgt := 588) hx hb dX12_rows_563 (by decide) (fun _ => ?_) (fun c9 => absurd (by decide) c9) 
        refine lv_aload_n hx hb dX12_rows_588 rfl (lv_at hl 1 rfl) ?_
        refine cV_l (C := RX12) (n := 0) (rest := []) hx hb hml hown hg hT (c_X12_no l dC dI g ty H.size Y pa kp ks I tl ac 2 tw  ) (cv_of hg wM_X12_107 wN_X12_no wL_X12_X12_no wK_X12_no wI_X12 (by decide +kernel) ⟨Nat.le_of_ble_eq_true rfl, Nat.le_of_ble_eq_true rfl⟩) hK hP hD hS hA (va_recv hK hP (ci := 14) (q0 := 0) rfl rfl) rfl hl.1 rfl (Nat.le_of_ble_eq_true rfl) dX12_rows_589 ⟨Nat.le_of_ble_eq_true rfl, Nat.le_of_ble_eq_true rfl⟩ (fun r_64 u_65 H locs q_63 hP hD hS => ?_)
        obtain ⟨rfl, rfl⟩ := q_63
        have hP : va_P (dC, dI) vwCl (rW g ty Y pa kp ks I tl ac 2 1) H := hP
        have hD : va_D A (rW g ty Y pa kp ks I tl ac 2 1) := hD
        refine cr_l (wo := fun u : rY × (Nat → Int32) × (Nat → Int32) × (Nat → Int32) × Int32 × Int32 => rW g ty u.1 u.2.1 u.2.2.1 ks I u.2.2.2.1 ac u.2.2.2.2.1 u.2.2.2.2.2) ((Y, pa, kp, tl, 2, 1)) hx hb hr hlk hS hP hD ?_ dX12_rows_592
        exact ⟨0, Y, pa, kp, tl, 2, 1, rfl, rfl, (by exact ra_f (f := 2) rel hcnt htl (by decide))⟩
      · show _
        exact absurd f_54 (by assumption)
      · show _
        exact absurd f_57 (by assumption)
      · show _
        exact absurd f_60 (by assumption)
    · show _
      exact absurd (g3.symm.trans f_47) (by simp)
  · show _
    obtain ⟨n1q3, n2q3, n3q3⟩ := rk_some rel g2 g3
    have hneq3 := (i32_pos n1q3).2.1
    have thq3 := wf.1 _ _ g3
    have kq3 := cIs_1 (ki_8 wf thq3.1 thq3.2 g3x0)
    have hl : lv_has ls 8 [(0, .ref (g 8)), (1, .int 8), (2, .int a0), (3, .int b0), (4, .int c0)] := hl
    refine lv_iload_n hx hb dX12_rows_0 rfl (lv_at hl 3 rfl) ?_
    refine lv_bipush (v := 7) hx hb dX12_rows_1 (by decide) ?_
    refine lv_iand hx hb dX12_rows_3 ?_
    refine lv_istore (lv' := [(5, .int (b0 &&& 7)), (0, .ref (g 8)), (1, .int 8), (2, .int a0), (3, .int b0), (4, .int c0)]) hx hb dX12_rows_4 hl (by decide) rfl (fun ls hl => ?_)
    refine lv_iload_n hx hb dX12_rows_6 rfl (lv_at hl 2 rfl) ?_
    refine lv_tableOut (tgt := 546) hx hb dX12_rows_7 (by decide) (by decide) ?_
    refine lv_aload_n hx hb dX12_rows_546 rfl (lv_at hl 1 rfl) ?_
    refine lv_iload_n hx hb dX12_rows_547 rfl (lv_at hl 3 rfl) ?_
    refine lv_bipush (v := 8) hx hb dX12_rows_548 (by decide) ?_
    refine cV_i (C := RX12) (n := 2) (rest := []) hx hb hml hown hg hT (c_X12_thing l dC dI g ty s.heap.size Y pa kp ks I tl ac wr tw ρ pl P a0 8 (by exact rel) (by exact wf) (by exact i32_in (by decide) (by decide))) (cv_of hg wM_X12_131 wN_X12_thing wL_X12_X12_thing wK_X12_thing wI_X12 (by decide +kernel) ⟨Nat.le_of_ble_eq_true rfl, Nat.le_of_ble_eq_true rfl⟩) hK hP hD hS hA (va_recv hK hP (ci := 14) (q0 := 0) rfl rfl) rfl hl.1 rfl (Nat.le_of_ble_eq_true rfl) dX12_rows_550 ⟨Nat.le_of_ble_eq_true rfl, Nat.le_of_ble_eq_true rfl⟩ (fun r_67 u_68 H locs q_66 hP hD hS => ?_)
    rcases q_66 with ⟨rfl, rfl, f_69⟩ | ⟨t_70, rfl, rfl, f_71, f_72, f_73⟩ | ⟨rfl, rfl, f_74, f_75⟩ | ⟨t_76, rfl, rfl, f_77, f_78, f_79⟩
    · show _
      exact absurd (by assumption) f_69
    · show _
      obtain rfl := Option.some.inj (g3.symm.trans f_72); exact absurd (g3x0.symm.trans f_73) (by decide)
    · show _
      exact absurd (g3.symm.trans f_75) (by simp)
    · show _
      obtain rfl := Option.some.inj (g3.symm.trans f_78)
      have hP : va_P (dC, dI) vwCl (rW g ty Y pa kp ks I tl ac wr tw) H := hP
      have hD : va_D A (rW g ty Y pa kp ks I tl ac wr tw) := hD
      refine lv_if_eq (tgt := 588) hx hb dX12_rows_553 (by decide) (fun c9 => absurd c9 (by decide)) (fun _ => ?_)
      refine lv_aload_n hx hb dX12_rows_556 rfl (lv_at hl 1 rfl) ?_
      refine lv_iload hx hb dX12_rows_557 (lv_at hl 5 rfl) ?_
      refine lv_iconst (v := 0) hx hb dX12_rows_559 (by decide) ?_
      refine cV_i (C := RX12) (n := 2) (rest := []) hx hb hml hown hg hT (c_X12_thing l dC dI g ty H.size Y pa kp ks I tl ac wr tw ρ pl P c0 0 (by exact rel) (by exact wf) (by exact i32_in (by decide) (by decide))) (cv_of hg wM_X12_131 wN_X12_thing wL_X12_X12_thing wK_X12_thing wI_X12 (by decide +kernel) ⟨Nat.le_of_ble_eq_true rfl, Nat.le_of_ble_eq_true rfl⟩) hK hP hD hS hA (va_recv hK hP (ci := 14) (q0 := 0) rfl rfl) rfl hl.1 rfl (Nat.le_of_ble_eq_true rfl) dX12_rows_560 ⟨Nat.le_of_ble_eq_true rfl, Nat.le_of_ble_eq_true rfl⟩ (fun r_81 u_82 H locs q_80 hP hD hS => ?_)
      rcases q_80 with ⟨rfl, rfl, f_83⟩ | ⟨t_84, rfl, rfl, f_85, f_86, f_87⟩ | ⟨rfl, rfl, f_88, f_89⟩ | ⟨t_90, rfl, rfl, f_91, f_92, f_93⟩
      · show _
        have hP : va_P (dC, dI) vwCl (rW g ty Y pa kp ks I tl ac 2 tw) H := hP
        have hD : va_D A (rW g ty Y pa kp ks I tl ac 2 tw) := hD
        refine lv_if_eq (tgt := 588) hx hb dX12_rows_563 (by decide) (fun _ => ?_) (fun c9 => absurd (by decide) c9) 
        refine lv_aload_n hx hb dX12_rows_588 rfl (lv_at hl 1 rfl) ?_
        refine cV_l (C := RX12) (n := 0) (rest := []) hx hb hml hown hg hT (c_X12_no l dC dI g ty H.size Y pa kp ks I tl ac 2 tw  ) (cv_of hg wM_X12_107 wN_X12_no wL_X12_X12_no wK_X12_no wI_X12 (by decide +kernel) ⟨Nat.le_of_ble_eq_true rfl, Nat.le_of_ble_eq_true rfl⟩) hK hP hD hS hA (va_recv hK hP (ci := 14) (q0 := 0) rfl rfl) rfl hl.1 rfl (Nat.le_of_ble_eq_true rfl) dX12_rows_589 ⟨Nat.le_of_ble_eq_true rfl, Nat.le_of_ble_eq_true rfl⟩ (fun r_95 u_96 H locs q_94 hP hD hS => ?_)
        obtain ⟨rfl, rfl⟩ := q_94
        have hP : va_P (dC, dI) vwCl (rW g ty Y pa kp ks I tl ac 2 1) H := hP
        have hD : va_D A (rW g ty Y pa kp ks I tl ac 2 1) := hD
        refine cr_l (wo := fun u : rY × (Nat → Int32) × (Nat → Int32) × (Nat → Int32) × Int32 × Int32 => rW g ty u.1 u.2.1 u.2.2.1 ks I u.2.2.2.1 ac u.2.2.2.2.1 u.2.2.2.2.2) ((Y, pa, kp, tl, 2, 1)) hx hb hr hlk hS hP hD ?_ dX12_rows_592
        exact ⟨0, Y, pa, kp, tl, 2, 1, rfl, rfl, (by exact ra_f (f := 2) rel hcnt htl (by decide))⟩
      · show _
        exact absurd f_85 (by assumption)
      · show _
        exact absurd f_88 (by assumption)
      · show _
        exact absurd f_91 (by assumption)
  · show _
    have hza0 := rk_none rel g2 g3
    obtain ⟨n1t, n2t, n3t⟩ := rk_some rel g4 g5
    have hnet := (i32_pos n1t).2.1
    have tht := wf.1 _ _ g5
    have hl : lv_has ls 8 [(0, .ref (g 8)), (1, .int 8), (2, .int a0), (3, .int b0), (4, .int c0)] := hl
    refine lv_iload_n hx hb dX12_rows_0 rfl (lv_at hl 3 rfl) ?_
    refine lv_bipush (v := 7) hx hb dX12_rows_1 (by decide) ?_
    refine lv_iand hx hb dX12_rows_3 ?_
    refine lv_istore (lv' := [(5, .int (b0 &&& 7)), (0, .ref (g 8)), (1, .int 8), (2, .int a0), (3, .int b0), (4, .int c0)]) hx hb dX12_rows_4 hl (by decide) rfl (fun ls hl => ?_)
    refine lv_iload_n hx hb dX12_rows_6 rfl (lv_at hl 2 rfl) ?_
    refine lv_tableOut (tgt := 546) hx hb dX12_rows_7 (by decide) (by decide) ?_
    refine lv_aload_n hx hb dX12_rows_546 rfl (lv_at hl 1 rfl) ?_
    refine lv_iload_n hx hb dX12_rows_547 rfl (lv_at hl 3 rfl) ?_
    refine lv_bipush (v := 8) hx hb dX12_rows_548 (by decide) ?_
    refine cV_i (C := RX12) (n := 2) (rest := []) hx hb hml hown hg hT (c_X12_thing l dC dI g ty s.heap.size Y pa kp ks I tl ac wr tw ρ pl P a0 8 (by exact rel) (by exact wf) (by exact i32_in (by decide) (by decide))) (cv_of hg wM_X12_131 wN_X12_thing wL_X12_X12_thing wK_X12_thing wI_X12 (by decide +kernel) ⟨Nat.le_of_ble_eq_true rfl, Nat.le_of_ble_eq_true rfl⟩) hK hP hD hS hA (va_recv hK hP (ci := 14) (q0 := 0) rfl rfl) rfl hl.1 rfl (Nat.le_of_ble_eq_true rfl) dX12_rows_550 ⟨Nat.le_of_ble_eq_true rfl, Nat.le_of_ble_eq_true rfl⟩ (fun r_98 u_99 H locs q_97 hP hD hS => ?_)
    rcases q_97 with ⟨rfl, rfl, f_100⟩ | ⟨t_101, rfl, rfl, f_102, f_103, f_104⟩ | ⟨rfl, rfl, f_105, f_106⟩ | ⟨t_107, rfl, rfl, f_108, f_109, f_110⟩
    · show _
      exact absurd (by assumption) f_100
    · show _
      exact absurd (g3.symm.trans f_103) (by simp)
    · show _
      have hP : va_P (dC, dI) vwCl (rW g ty Y pa kp ks I tl ac wr tw) H := hP
      have hD : va_D A (rW g ty Y pa kp ks I tl ac wr tw) := hD
      refine lv_if_eq (tgt := 588) hx hb dX12_rows_553 (by decide) (fun c9 => absurd c9 (by decide)) (fun _ => ?_)
      refine lv_aload_n hx hb dX12_rows_556 rfl (lv_at hl 1 rfl) ?_
      refine lv_iload hx hb dX12_rows_557 (lv_at hl 5 rfl) ?_
      refine lv_iconst (v := 0) hx hb dX12_rows_559 (by decide) ?_
      refine cV_i (C := RX12) (n := 2) (rest := []) hx hb hml hown hg hT (c_X12_thing l dC dI g ty H.size Y pa kp ks I tl ac wr tw ρ pl P c0 0 (by exact rel) (by exact wf) (by exact i32_in (by decide) (by decide))) (cv_of hg wM_X12_131 wN_X12_thing wL_X12_X12_thing wK_X12_thing wI_X12 (by decide +kernel) ⟨Nat.le_of_ble_eq_true rfl, Nat.le_of_ble_eq_true rfl⟩) hK hP hD hS hA (va_recv hK hP (ci := 14) (q0 := 0) rfl rfl) rfl hl.1 rfl (Nat.le_of_ble_eq_true rfl) dX12_rows_560 ⟨Nat.le_of_ble_eq_true rfl, Nat.le_of_ble_eq_true rfl⟩ (fun r_112 u_113 H locs q_111 hP hD hS => ?_)
      rcases q_111 with ⟨rfl, rfl, f_114⟩ | ⟨t_115, rfl, rfl, f_116, f_117, f_118⟩ | ⟨rfl, rfl, f_119, f_120⟩ | ⟨t_121, rfl, rfl, f_122, f_123, f_124⟩
      · show _
        exact absurd (by assumption) f_114
      · show _
        obtain rfl := Option.some.inj (g5.symm.trans f_117)
        have hP : va_P (dC, dI) vwCl (rW g ty Y pa kp ks I tl ac 3 tw) H := hP
        have hD : va_D A (rW g ty Y pa kp ks I tl ac 3 tw) := hD
        refine lv_if_eq (tgt := 588) hx hb dX12_rows_563 (by decide) (fun _ => ?_) (fun c9 => absurd (by decide) c9) 
        refine lv_aload_n hx hb dX12_rows_588 rfl (lv_at hl 1 rfl) ?_
        refine cV_l (C := RX12) (n := 0) (rest := []) hx hb hml hown hg hT (c_X12_no l dC dI g ty H.size Y pa kp ks I tl ac 3 tw  ) (cv_of hg wM_X12_107 wN_X12_no wL_X12_X12_no wK_X12_no wI_X12 (by decide +kernel) ⟨Nat.le_of_ble_eq_true rfl, Nat.le_of_ble_eq_true rfl⟩) hK hP hD hS hA (va_recv hK hP (ci := 14) (q0 := 0) rfl rfl) rfl hl.1 rfl (Nat.le_of_ble_eq_true rfl) dX12_rows_589 ⟨Nat.le_of_ble_eq_true rfl, Nat.le_of_ble_eq_true rfl⟩ (fun r_126 u_127 H locs q_125 hP hD hS => ?_)
        obtain ⟨rfl, rfl⟩ := q_125
        have hP : va_P (dC, dI) vwCl (rW g ty Y pa kp ks I tl ac 3 1) H := hP
        have hD : va_D A (rW g ty Y pa kp ks I tl ac 3 1) := hD
        refine cr_l (wo := fun u : rY × (Nat → Int32) × (Nat → Int32) × (Nat → Int32) × Int32 × Int32 => rW g ty u.1 u.2.1 u.2.2.1 ks I u.2.2.2.1 ac u.2.2.2.2.1 u.2.2.2.2.2) ((Y, pa, kp, tl, 3, 1)) hx hb hr hlk hS hP hD ?_ dX12_rows_592
        exact ⟨0, Y, pa, kp, tl, 3, 1, rfl, rfl, (by exact ra_f (f := 3) rel hcnt htl (by decide))⟩
      · show _
        exact absurd (g5.symm.trans f_120) (by simp)
      · show _
        obtain rfl := Option.some.inj (g5.symm.trans f_123); exact absurd (g6.symm.trans f_124) (by decide)
    · show _
      exact absurd (g3.symm.trans f_109) (by simp)
  · show _
    obtain ⟨n1q3, n2q3, n3q3⟩ := rk_some rel g2 g3
    have hneq3 := (i32_pos n1q3).2.1
    have thq3 := wf.1 _ _ g3
    obtain ⟨n1t, n2t, n3t⟩ := rk_some rel g4 g5
    have hnet := (i32_pos n1t).2.1
    have tht := wf.1 _ _ g5
    have kq3 := cIs_1 (ki_8 wf thq3.1 thq3.2 g3x0)
    have hl : lv_has ls 8 [(0, .ref (g 8)), (1, .int 8), (2, .int a0), (3, .int b0), (4, .int c0)] := hl
    refine lv_iload_n hx hb dX12_rows_0 rfl (lv_at hl 3 rfl) ?_
    refine lv_bipush (v := 7) hx hb dX12_rows_1 (by decide) ?_
    refine lv_iand hx hb dX12_rows_3 ?_
    refine lv_istore (lv' := [(5, .int (b0 &&& 7)), (0, .ref (g 8)), (1, .int 8), (2, .int a0), (3, .int b0), (4, .int c0)]) hx hb dX12_rows_4 hl (by decide) rfl (fun ls hl => ?_)
    refine lv_iload_n hx hb dX12_rows_6 rfl (lv_at hl 2 rfl) ?_
    refine lv_tableOut (tgt := 546) hx hb dX12_rows_7 (by decide) (by decide) ?_
    refine lv_aload_n hx hb dX12_rows_546 rfl (lv_at hl 1 rfl) ?_
    refine lv_iload_n hx hb dX12_rows_547 rfl (lv_at hl 3 rfl) ?_
    refine lv_bipush (v := 8) hx hb dX12_rows_548 (by decide) ?_
    refine cV_i (C := RX12) (n := 2) (rest := []) hx hb hml hown hg hT (c_X12_thing l dC dI g ty s.heap.size Y pa kp ks I tl ac wr tw ρ pl P a0 8 (by exact rel) (by exact wf) (by exact i32_in (by decide) (by decide))) (cv_of hg wM_X12_131 wN_X12_thing wL_X12_X12_thing wK_X12_thing wI_X12 (by decide +kernel) ⟨Nat.le_of_ble_eq_true rfl, Nat.le_of_ble_eq_true rfl⟩) hK hP hD hS hA (va_recv hK hP (ci := 14) (q0 := 0) rfl rfl) rfl hl.1 rfl (Nat.le_of_ble_eq_true rfl) dX12_rows_550 ⟨Nat.le_of_ble_eq_true rfl, Nat.le_of_ble_eq_true rfl⟩ (fun r_129 u_130 H locs q_128 hP hD hS => ?_)
    rcases q_128 with ⟨rfl, rfl, f_131⟩ | ⟨t_132, rfl, rfl, f_133, f_134, f_135⟩ | ⟨rfl, rfl, f_136, f_137⟩ | ⟨t_138, rfl, rfl, f_139, f_140, f_141⟩
    · show _
      exact absurd (by assumption) f_131
    · show _
      obtain rfl := Option.some.inj (g3.symm.trans f_134); exact absurd (g3x0.symm.trans f_135) (by decide)
    · show _
      exact absurd (g3.symm.trans f_137) (by simp)
    · show _
      obtain rfl := Option.some.inj (g3.symm.trans f_140)
      have hP : va_P (dC, dI) vwCl (rW g ty Y pa kp ks I tl ac wr tw) H := hP
      have hD : va_D A (rW g ty Y pa kp ks I tl ac wr tw) := hD
      refine lv_if_eq (tgt := 588) hx hb dX12_rows_553 (by decide) (fun c9 => absurd c9 (by decide)) (fun _ => ?_)
      refine lv_aload_n hx hb dX12_rows_556 rfl (lv_at hl 1 rfl) ?_
      refine lv_iload hx hb dX12_rows_557 (lv_at hl 5 rfl) ?_
      refine lv_iconst (v := 0) hx hb dX12_rows_559 (by decide) ?_
      refine cV_i (C := RX12) (n := 2) (rest := []) hx hb hml hown hg hT (c_X12_thing l dC dI g ty H.size Y pa kp ks I tl ac wr tw ρ pl P c0 0 (by exact rel) (by exact wf) (by exact i32_in (by decide) (by decide))) (cv_of hg wM_X12_131 wN_X12_thing wL_X12_X12_thing wK_X12_thing wI_X12 (by decide +kernel) ⟨Nat.le_of_ble_eq_true rfl, Nat.le_of_ble_eq_true rfl⟩) hK hP hD hS hA (va_recv hK hP (ci := 14) (q0 := 0) rfl rfl) rfl hl.1 rfl (Nat.le_of_ble_eq_true rfl) dX12_rows_560 ⟨Nat.le_of_ble_eq_true rfl, Nat.le_of_ble_eq_true rfl⟩ (fun r_143 u_144 H locs q_142 hP hD hS => ?_)
      rcases q_142 with ⟨rfl, rfl, f_145⟩ | ⟨t_146, rfl, rfl, f_147, f_148, f_149⟩ | ⟨rfl, rfl, f_150, f_151⟩ | ⟨t_152, rfl, rfl, f_153, f_154, f_155⟩
      · show _
        exact absurd (by assumption) f_145
      · show _
        obtain rfl := Option.some.inj (g5.symm.trans f_148)
        have hP : va_P (dC, dI) vwCl (rW g ty Y pa kp ks I tl ac 3 tw) H := hP
        have hD : va_D A (rW g ty Y pa kp ks I tl ac 3 tw) := hD
        refine lv_if_eq (tgt := 588) hx hb dX12_rows_563 (by decide) (fun _ => ?_) (fun c9 => absurd (by decide) c9) 
        refine lv_aload_n hx hb dX12_rows_588 rfl (lv_at hl 1 rfl) ?_
        refine cV_l (C := RX12) (n := 0) (rest := []) hx hb hml hown hg hT (c_X12_no l dC dI g ty H.size Y pa kp ks I tl ac 3 tw  ) (cv_of hg wM_X12_107 wN_X12_no wL_X12_X12_no wK_X12_no wI_X12 (by decide +kernel) ⟨Nat.le_of_ble_eq_true rfl, Nat.le_of_ble_eq_true rfl⟩) hK hP hD hS hA (va_recv hK hP (ci := 14) (q0 := 0) rfl rfl) rfl hl.1 rfl (Nat.le_of_ble_eq_true rfl) dX12_rows_589 ⟨Nat.le_of_ble_eq_true rfl, Nat.le_of_ble_eq_true rfl⟩ (fun r_157 u_158 H locs q_156 hP hD hS => ?_)
        obtain ⟨rfl, rfl⟩ := q_156
        have hP : va_P (dC, dI) vwCl (rW g ty Y pa kp ks I tl ac 3 1) H := hP
        have hD : va_D A (rW g ty Y pa kp ks I tl ac 3 1) := hD
        refine cr_l (wo := fun u : rY × (Nat → Int32) × (Nat → Int32) × (Nat → Int32) × Int32 × Int32 => rW g ty u.1 u.2.1 u.2.2.1 ks I u.2.2.2.1 ac u.2.2.2.2.1 u.2.2.2.2.2) ((Y, pa, kp, tl, 3, 1)) hx hb hr hlk hS hP hD ?_ dX12_rows_592
        exact ⟨0, Y, pa, kp, tl, 3, 1, rfl, rfl, (by exact ra_f (f := 3) rel hcnt htl (by decide))⟩
      · show _
        exact absurd (g5.symm.trans f_151) (by simp)
      · show _
        obtain rfl := Option.some.inj (g5.symm.trans f_154); exact absurd (g6.symm.trans f_155) (by decide)
  · show _
    have hza0 := rk_none rel g2 g3
    have hzc0 := rk_none rel g4 g5
    have hl : lv_has ls 8 [(0, .ref (g 8)), (1, .int 8), (2, .int a0), (3, .int b0), (4, .int c0)] := hl
    refine lv_iload_n hx hb dX12_rows_0 rfl (lv_at hl 3 rfl) ?_
    refine lv_bipush (v := 7) hx hb dX12_rows_1 (by decide) ?_
    refine lv_iand hx hb dX12_rows_3 ?_
    refine lv_istore (lv' := [(5, .int (b0 &&& 7)), (0, .ref (g 8)), (1, .int 8), (2, .int a0), (3, .int b0), (4, .int c0)]) hx hb dX12_rows_4 hl (by decide) rfl (fun ls hl => ?_)
    refine lv_iload_n hx hb dX12_rows_6 rfl (lv_at hl 2 rfl) ?_
    refine lv_tableOut (tgt := 546) hx hb dX12_rows_7 (by decide) (by decide) ?_
    refine lv_aload_n hx hb dX12_rows_546 rfl (lv_at hl 1 rfl) ?_
    refine lv_iload_n hx hb dX12_rows_547 rfl (lv_at hl 3 rfl) ?_
    refine lv_bipush (v := 8) hx hb dX12_rows_548 (by decide) ?_
    refine cV_i (C := RX12) (n := 2) (rest := []) hx hb hml hown hg hT (c_X12_thing l dC dI g ty s.heap.size Y pa kp ks I tl ac wr tw ρ pl P a0 8 (by exact rel) (by exact wf) (by exact i32_in (by decide) (by decide))) (cv_of hg wM_X12_131 wN_X12_thing wL_X12_X12_thing wK_X12_thing wI_X12 (by decide +kernel) ⟨Nat.le_of_ble_eq_true rfl, Nat.le_of_ble_eq_true rfl⟩) hK hP hD hS hA (va_recv hK hP (ci := 14) (q0 := 0) rfl rfl) rfl hl.1 rfl (Nat.le_of_ble_eq_true rfl) dX12_rows_550 ⟨Nat.le_of_ble_eq_true rfl, Nat.le_of_ble_eq_true rfl⟩ (fun r_160 u_161 H locs q_159 hP hD hS => ?_)
    rcases q_159 with ⟨rfl, rfl, f_162⟩ | ⟨t_163, rfl, rfl, f_164, f_165, f_166⟩ | ⟨rfl, rfl, f_167, f_168⟩ | ⟨t_169, rfl, rfl, f_170, f_171, f_172⟩
    · show _
      exact absurd (by assumption) f_162
    · show _
      exact absurd (g3.symm.trans f_165) (by simp)
    · show _
      have hP : va_P (dC, dI) vwCl (rW g ty Y pa kp ks I tl ac wr tw) H := hP
      have hD : va_D A (rW g ty Y pa kp ks I tl ac wr tw) := hD
      refine lv_if_eq (tgt := 588) hx hb dX12_rows_553 (by decide) (fun c9 => absurd c9 (by decide)) (fun _ => ?_)
      refine lv_aload_n hx hb dX12_rows_556 rfl (lv_at hl 1 rfl) ?_
      refine lv_iload hx hb dX12_rows_557 (lv_at hl 5 rfl) ?_
      refine lv_iconst (v := 0) hx hb dX12_rows_559 (by decide) ?_
      refine cV_i (C := RX12) (n := 2) (rest := []) hx hb hml hown hg hT (c_X12_thing l dC dI g ty H.size Y pa kp ks I tl ac wr tw ρ pl P c0 0 (by exact rel) (by exact wf) (by exact i32_in (by decide) (by decide))) (cv_of hg wM_X12_131 wN_X12_thing wL_X12_X12_thing wK_X12_thing wI_X12 (by decide +kernel) ⟨Nat.le_of_ble_eq_true rfl, Nat.le_of_ble_eq_true rfl⟩) hK hP hD hS hA (va_recv hK hP (ci := 14) (q0 := 0) rfl rfl) rfl hl.1 rfl (Nat.le_of_ble_eq_true rfl) dX12_rows_560 ⟨Nat.le_of_ble_eq_true rfl, Nat.le_of_ble_eq_true rfl⟩ (fun r_174 u_175 H locs q_173 hP hD hS => ?_)
      rcases q_173 with ⟨rfl, rfl, f_176⟩ | ⟨t_177, rfl, rfl, f_178, f_179, f_180⟩ | ⟨rfl, rfl, f_181, f_182⟩ | ⟨t_183, rfl, rfl, f_184, f_185, f_186⟩
      · show _
        exact absurd (by assumption) f_176
      · show _
        exact absurd (g5.symm.trans f_179) (by simp)
      · show _
        have hP : va_P (dC, dI) vwCl (rW g ty Y pa kp ks I tl ac wr tw) H := hP
        have hD : va_D A (rW g ty Y pa kp ks I tl ac wr tw) := hD
        refine lv_if_eq (tgt := 588) hx hb dX12_rows_563 (by decide) (fun c9 => absurd c9 (by decide)) (fun _ => ?_)
        refine lv_aload_n hx hb dX12_rows_566 rfl (lv_at hl 1 rfl) ?_
        refine lv_iload_n hx hb dX12_rows_567 rfl (lv_at hl 3 rfl) ?_
        refine cV_i (C := RX12) (n := 1) (rest := []) hx hb hml hown hg hT (c_X12_need l dC dI g ty H.size Y pa kp ks I tl ac wr tw a0 (by assumption)) (cv_of hg wM_X12_134 wN_X12_need wL_X12_X12_need wK_X12_need wI_X12 (by decide +kernel) ⟨Nat.le_of_ble_eq_true rfl, Nat.le_of_ble_eq_true rfl⟩) hK hP hD hS hA (va_recv hK hP (ci := 14) (q0 := 0) rfl rfl) rfl hl.1 rfl (Nat.le_of_ble_eq_true rfl) dX12_rows_568 ⟨Nat.le_of_ble_eq_true rfl, Nat.le_of_ble_eq_true rfl⟩ (fun r_188 u_189 H locs q_187 hP hD hS => ?_)
        rcases q_187 with ⟨rfl, rfl, f_190⟩ | ⟨rfl, rfl, f_191⟩
        · show _
          have hP : va_P (dC, dI) vwCl (rW g ty Y pa kp ks I tl ac 1 tw) H := hP
          have hD : va_D A (rW g ty Y pa kp ks I tl ac 1 tw) := hD
          refine lv_if_eq (tgt := 588) hx hb dX12_rows_571 (by decide) (fun _ => ?_) (fun c9 => absurd (by decide) c9) 
          refine lv_aload_n hx hb dX12_rows_588 rfl (lv_at hl 1 rfl) ?_
          refine cV_l (C := RX12) (n := 0) (rest := []) hx hb hml hown hg hT (c_X12_no l dC dI g ty H.size Y pa kp ks I tl ac 1 tw  ) (cv_of hg wM_X12_107 wN_X12_no wL_X12_X12_no wK_X12_no wI_X12 (by decide +kernel) ⟨Nat.le_of_ble_eq_true rfl, Nat.le_of_ble_eq_true rfl⟩) hK hP hD hS hA (va_recv hK hP (ci := 14) (q0 := 0) rfl rfl) rfl hl.1 rfl (Nat.le_of_ble_eq_true rfl) dX12_rows_589 ⟨Nat.le_of_ble_eq_true rfl, Nat.le_of_ble_eq_true rfl⟩ (fun r_193 u_194 H locs q_192 hP hD hS => ?_)
          obtain ⟨rfl, rfl⟩ := q_192
          have hP : va_P (dC, dI) vwCl (rW g ty Y pa kp ks I tl ac 1 1) H := hP
          have hD : va_D A (rW g ty Y pa kp ks I tl ac 1 1) := hD
          refine cr_l (wo := fun u : rY × (Nat → Int32) × (Nat → Int32) × (Nat → Int32) × Int32 × Int32 => rW g ty u.1 u.2.1 u.2.2.1 ks I u.2.2.2.1 ac u.2.2.2.2.1 u.2.2.2.2.2) ((Y, pa, kp, tl, 1, 1)) hx hb hr hlk hS hP hD ?_ dX12_rows_592
          exact ⟨0, Y, pa, kp, tl, 1, 1, rfl, rfl, (by exact ra_f (f := 1) rel hcnt htl (by decide))⟩
        · show _
          exact absurd (by assumption) f_191
      · show _
        exact absurd (g5.symm.trans f_185) (by simp)
    · show _
      exact absurd (g3.symm.trans f_171) (by simp)
  · show _
    have hza0 := rk_none rel g2 g3
    obtain ⟨n1q5, n2q5, n3q5⟩ := rk_some rel g4 g5
    have hneq5 := (i32_pos n1q5).2.1
    have thq5 := wf.1 _ _ g5
    have kq5 := cIs_0 (ki_row0 wf thq5.1 thq5.2 g5x0)
    have hl : lv_has ls 8 [(0, .ref (g 8)), (1, .int 8), (2, .int a0), (3, .int b0), (4, .int c0)] := hl
    refine lv_iload_n hx hb dX12_rows_0 rfl (lv_at hl 3 rfl) ?_
    refine lv_bipush (v := 7) hx hb dX12_rows_1 (by decide) ?_
    refine lv_iand hx hb dX12_rows_3 ?_
    refine lv_istore (lv' := [(5, .int (b0 &&& 7)), (0, .ref (g 8)), (1, .int 8), (2, .int a0), (3, .int b0), (4, .int c0)]) hx hb dX12_rows_4 hl (by decide) rfl (fun ls hl => ?_)
    refine lv_iload_n hx hb dX12_rows_6 rfl (lv_at hl 2 rfl) ?_
    refine lv_tableOut (tgt := 546) hx hb dX12_rows_7 (by decide) (by decide) ?_
    refine lv_aload_n hx hb dX12_rows_546 rfl (lv_at hl 1 rfl) ?_
    refine lv_iload_n hx hb dX12_rows_547 rfl (lv_at hl 3 rfl) ?_
    refine lv_bipush (v := 8) hx hb dX12_rows_548 (by decide) ?_
    refine cV_i (C := RX12) (n := 2) (rest := []) hx hb hml hown hg hT (c_X12_thing l dC dI g ty s.heap.size Y pa kp ks I tl ac wr tw ρ pl P a0 8 (by exact rel) (by exact wf) (by exact i32_in (by decide) (by decide))) (cv_of hg wM_X12_131 wN_X12_thing wL_X12_X12_thing wK_X12_thing wI_X12 (by decide +kernel) ⟨Nat.le_of_ble_eq_true rfl, Nat.le_of_ble_eq_true rfl⟩) hK hP hD hS hA (va_recv hK hP (ci := 14) (q0 := 0) rfl rfl) rfl hl.1 rfl (Nat.le_of_ble_eq_true rfl) dX12_rows_550 ⟨Nat.le_of_ble_eq_true rfl, Nat.le_of_ble_eq_true rfl⟩ (fun r_196 u_197 H locs q_195 hP hD hS => ?_)
    rcases q_195 with ⟨rfl, rfl, f_198⟩ | ⟨t_199, rfl, rfl, f_200, f_201, f_202⟩ | ⟨rfl, rfl, f_203, f_204⟩ | ⟨t_205, rfl, rfl, f_206, f_207, f_208⟩
    · show _
      exact absurd (by assumption) f_198
    · show _
      exact absurd (g3.symm.trans f_201) (by simp)
    · show _
      have hP : va_P (dC, dI) vwCl (rW g ty Y pa kp ks I tl ac wr tw) H := hP
      have hD : va_D A (rW g ty Y pa kp ks I tl ac wr tw) := hD
      refine lv_if_eq (tgt := 588) hx hb dX12_rows_553 (by decide) (fun c9 => absurd c9 (by decide)) (fun _ => ?_)
      refine lv_aload_n hx hb dX12_rows_556 rfl (lv_at hl 1 rfl) ?_
      refine lv_iload hx hb dX12_rows_557 (lv_at hl 5 rfl) ?_
      refine lv_iconst (v := 0) hx hb dX12_rows_559 (by decide) ?_
      refine cV_i (C := RX12) (n := 2) (rest := []) hx hb hml hown hg hT (c_X12_thing l dC dI g ty H.size Y pa kp ks I tl ac wr tw ρ pl P c0 0 (by exact rel) (by exact wf) (by exact i32_in (by decide) (by decide))) (cv_of hg wM_X12_131 wN_X12_thing wL_X12_X12_thing wK_X12_thing wI_X12 (by decide +kernel) ⟨Nat.le_of_ble_eq_true rfl, Nat.le_of_ble_eq_true rfl⟩) hK hP hD hS hA (va_recv hK hP (ci := 14) (q0 := 0) rfl rfl) rfl hl.1 rfl (Nat.le_of_ble_eq_true rfl) dX12_rows_560 ⟨Nat.le_of_ble_eq_true rfl, Nat.le_of_ble_eq_true rfl⟩ (fun r_210 u_211 H locs q_209 hP hD hS => ?_)
      rcases q_209 with ⟨rfl, rfl, f_212⟩ | ⟨t_213, rfl, rfl, f_214, f_215, f_216⟩ | ⟨rfl, rfl, f_217, f_218⟩ | ⟨t_219, rfl, rfl, f_220, f_221, f_222⟩
      · show _
        exact absurd (by assumption) f_212
      · show _
        obtain rfl := Option.some.inj (g5.symm.trans f_215); exact absurd (g5x0.symm.trans f_216) (by decide)
      · show _
        exact absurd (g5.symm.trans f_218) (by simp)
      · show _
        obtain rfl := Option.some.inj (g5.symm.trans f_221)
        have hP : va_P (dC, dI) vwCl (rW g ty Y pa kp ks I tl ac wr tw) H := hP
        have hD : va_D A (rW g ty Y pa kp ks I tl ac wr tw) := hD
        refine lv_if_eq (tgt := 588) hx hb dX12_rows_563 (by decide) (fun c9 => absurd c9 (by decide)) (fun _ => ?_)
        refine lv_aload_n hx hb dX12_rows_566 rfl (lv_at hl 1 rfl) ?_
        refine lv_iload_n hx hb dX12_rows_567 rfl (lv_at hl 3 rfl) ?_
        refine cV_i (C := RX12) (n := 1) (rest := []) hx hb hml hown hg hT (c_X12_need l dC dI g ty H.size Y pa kp ks I tl ac wr tw a0 (by assumption)) (cv_of hg wM_X12_134 wN_X12_need wL_X12_X12_need wK_X12_need wI_X12 (by decide +kernel) ⟨Nat.le_of_ble_eq_true rfl, Nat.le_of_ble_eq_true rfl⟩) hK hP hD hS hA (va_recv hK hP (ci := 14) (q0 := 0) rfl rfl) rfl hl.1 rfl (Nat.le_of_ble_eq_true rfl) dX12_rows_568 ⟨Nat.le_of_ble_eq_true rfl, Nat.le_of_ble_eq_true rfl⟩ (fun r_224 u_225 H locs q_223 hP hD hS => ?_)
        rcases q_223 with ⟨rfl, rfl, f_226⟩ | ⟨rfl, rfl, f_227⟩
        · show _
          have hP : va_P (dC, dI) vwCl (rW g ty Y pa kp ks I tl ac 1 tw) H := hP
          have hD : va_D A (rW g ty Y pa kp ks I tl ac 1 tw) := hD
          refine lv_if_eq (tgt := 588) hx hb dX12_rows_571 (by decide) (fun _ => ?_) (fun c9 => absurd (by decide) c9) 
          refine lv_aload_n hx hb dX12_rows_588 rfl (lv_at hl 1 rfl) ?_
          refine cV_l (C := RX12) (n := 0) (rest := []) hx hb hml hown hg hT (c_X12_no l dC dI g ty H.size Y pa kp ks I tl ac 1 tw  ) (cv_of hg wM_X12_107 wN_X12_no wL_X12_X12_no wK_X12_no wI_X12 (by decide +kernel) ⟨Nat.le_of_ble_eq_true rfl, Nat.le_of_ble_eq_true rfl⟩) hK hP hD hS hA (va_recv hK hP (ci := 14) (q0 := 0) rfl rfl) rfl hl.1 rfl (Nat.le_of_ble_eq_true rfl) dX12_rows_589 ⟨Nat.le_of_ble_eq_true rfl, Nat.le_of_ble_eq_true rfl⟩ (fun r_229 u_230 H locs q_228 hP hD hS => ?_)
          obtain ⟨rfl, rfl⟩ := q_228
          have hP : va_P (dC, dI) vwCl (rW g ty Y pa kp ks I tl ac 1 1) H := hP
          have hD : va_D A (rW g ty Y pa kp ks I tl ac 1 1) := hD
          refine cr_l (wo := fun u : rY × (Nat → Int32) × (Nat → Int32) × (Nat → Int32) × Int32 × Int32 => rW g ty u.1 u.2.1 u.2.2.1 ks I u.2.2.2.1 ac u.2.2.2.2.1 u.2.2.2.2.2) ((Y, pa, kp, tl, 1, 1)) hx hb hr hlk hS hP hD ?_ dX12_rows_592
          exact ⟨0, Y, pa, kp, tl, 1, 1, rfl, rfl, (by exact ra_f (f := 1) rel hcnt htl (by decide))⟩
        · show _
          exact absurd (by assumption) f_227
    · show _
      exact absurd (g3.symm.trans f_207) (by simp)
  · show _
    obtain ⟨n1t, n2t, n3t⟩ := rk_some rel g2 g3
    have hnet := (i32_pos n1t).2.1
    have tht := wf.1 _ _ g3
    have hzc0 := rk_none rel g5 g6
    have kt := cIs_1 (ki_8 wf tht.1 tht.2 g4)
    have hvt := rv_shelf rel n1t n2t n3t kt g7
    have hl : lv_has ls 8 [(0, .ref (g 8)), (1, .int 8), (2, .int a0), (3, .int b0), (4, .int c0)] := hl
    refine lv_iload_n hx hb dX12_rows_0 rfl (lv_at hl 3 rfl) ?_
    refine lv_bipush (v := 7) hx hb dX12_rows_1 (by decide) ?_
    refine lv_iand hx hb dX12_rows_3 ?_
    refine lv_istore (lv' := [(5, .int (b0 &&& 7)), (0, .ref (g 8)), (1, .int 8), (2, .int a0), (3, .int b0), (4, .int c0)]) hx hb dX12_rows_4 hl (by decide) rfl (fun ls hl => ?_)
    refine lv_iload_n hx hb dX12_rows_6 rfl (lv_at hl 2 rfl) ?_
    refine lv_tableOut (tgt := 546) hx hb dX12_rows_7 (by decide) (by decide) ?_
    refine lv_aload_n hx hb dX12_rows_546 rfl (lv_at hl 1 rfl) ?_
    refine lv_iload_n hx hb dX12_rows_547 rfl (lv_at hl 3 rfl) ?_
    refine lv_bipush (v := 8) hx hb dX12_rows_548 (by decide) ?_
    refine cV_i (C := RX12) (n := 2) (rest := []) hx hb hml hown hg hT (c_X12_thing l dC dI g ty s.heap.size Y pa kp ks I tl ac wr tw ρ pl P a0 8 (by exact rel) (by exact wf) (by exact i32_in (by decide) (by decide))) (cv_of hg wM_X12_131 wN_X12_thing wL_X12_X12_thing wK_X12_thing wI_X12 (by decide +kernel) ⟨Nat.le_of_ble_eq_true rfl, Nat.le_of_ble_eq_true rfl⟩) hK hP hD hS hA (va_recv hK hP (ci := 14) (q0 := 0) rfl rfl) rfl hl.1 rfl (Nat.le_of_ble_eq_true rfl) dX12_rows_550 ⟨Nat.le_of_ble_eq_true rfl, Nat.le_of_ble_eq_true rfl⟩ (fun r_232 u_233 H locs q_231 hP hD hS => ?_)
    rcases q_231 with ⟨rfl, rfl, f_234⟩ | ⟨t_235, rfl, rfl, f_236, f_237, f_238⟩ | ⟨rfl, rfl, f_239, f_240⟩ | ⟨t_241, rfl, rfl, f_242, f_243, f_244⟩
    · show _
      exact absurd (by assumption) f_234
    · show _
      obtain rfl := Option.some.inj (g3.symm.trans f_237); exact absurd (g4.symm.trans f_238) (by decide)
    · show _
      exact absurd (g3.symm.trans f_240) (by simp)
    · show _
      obtain rfl := Option.some.inj (g3.symm.trans f_243)
      have hP : va_P (dC, dI) vwCl (rW g ty Y pa kp ks I tl ac wr tw) H := hP
      have hD : va_D A (rW g ty Y pa kp ks I tl ac wr tw) := hD
      refine lv_if_eq (tgt := 588) hx hb dX12_rows_553 (by decide) (fun c9 => absurd c9 (by decide)) (fun _ => ?_)
      refine lv_aload_n hx hb dX12_rows_556 rfl (lv_at hl 1 rfl) ?_
      refine lv_iload hx hb dX12_rows_557 (lv_at hl 5 rfl) ?_
      refine lv_iconst (v := 0) hx hb dX12_rows_559 (by decide) ?_
      refine cV_i (C := RX12) (n := 2) (rest := []) hx hb hml hown hg hT (c_X12_thing l dC dI g ty H.size Y pa kp ks I tl ac wr tw ρ pl P c0 0 (by exact rel) (by exact wf) (by exact i32_in (by decide) (by decide))) (cv_of hg wM_X12_131 wN_X12_thing wL_X12_X12_thing wK_X12_thing wI_X12 (by decide +kernel) ⟨Nat.le_of_ble_eq_true rfl, Nat.le_of_ble_eq_true rfl⟩) hK hP hD hS hA (va_recv hK hP (ci := 14) (q0 := 0) rfl rfl) rfl hl.1 rfl (Nat.le_of_ble_eq_true rfl) dX12_rows_560 ⟨Nat.le_of_ble_eq_true rfl, Nat.le_of_ble_eq_true rfl⟩ (fun r_246 u_247 H locs q_245 hP hD hS => ?_)
      rcases q_245 with ⟨rfl, rfl, f_248⟩ | ⟨t_249, rfl, rfl, f_250, f_251, f_252⟩ | ⟨rfl, rfl, f_253, f_254⟩ | ⟨t_255, rfl, rfl, f_256, f_257, f_258⟩
      · show _
        exact absurd (by assumption) f_248
      · show _
        exact absurd (g6.symm.trans f_251) (by simp)
      · show _
        have hP : va_P (dC, dI) vwCl (rW g ty Y pa kp ks I tl ac wr tw) H := hP
        have hD : va_D A (rW g ty Y pa kp ks I tl ac wr tw) := hD
        refine lv_if_eq (tgt := 588) hx hb dX12_rows_563 (by decide) (fun c9 => absurd c9 (by decide)) (fun _ => ?_)
        refine lv_aload_n hx hb dX12_rows_566 rfl (lv_at hl 1 rfl) ?_
        refine lv_iload_n hx hb dX12_rows_567 rfl (lv_at hl 3 rfl) ?_
        refine cV_i (C := RX12) (n := 1) (rest := []) hx hb hml hown hg hT (c_X12_need l dC dI g ty H.size Y pa kp ks I tl ac wr tw a0 (by assumption)) (cv_of hg wM_X12_134 wN_X12_need wL_X12_X12_need wK_X12_need wI_X12 (by decide +kernel) ⟨Nat.le_of_ble_eq_true rfl, Nat.le_of_ble_eq_true rfl⟩) hK hP hD hS hA (va_recv hK hP (ci := 14) (q0 := 0) rfl rfl) rfl hl.1 rfl (Nat.le_of_ble_eq_true rfl) dX12_rows_568 ⟨Nat.le_of_ble_eq_true rfl, Nat.le_of_ble_eq_true rfl⟩ (fun r_260 u_261 H locs q_259 hP hD hS => ?_)
        rcases q_259 with ⟨rfl, rfl, f_262⟩ | ⟨rfl, rfl, f_263⟩
        · show _
          exact absurd f_262 (by assumption)
        · show _
          have hP : va_P (dC, dI) vwCl (rW g ty Y pa kp ks I tl ac wr tw) H := hP
          have hD : va_D A (rW g ty Y pa kp ks I tl ac wr tw) := hD
          refine lv_if_eq (tgt := 588) hx hb dX12_rows_571 (by decide) (fun c9 => absurd c9 (by decide)) (fun _ => ?_)
          refine lv_aload_n hx hb dX12_rows_574 rfl (lv_at hl 1 rfl) ?_
          refine lv_aload_n hx hb dX12_rows_575 rfl (lv_at hl 1 rfl) ?_
          refine va_get (D := (dC, dI)) (ci := 14) (v := .ref (g 9)) (C := RX12) (T := TX12) (N := 21) hx hb hg inG12 hown hK hP 0 rfl rfl 8 (by decide) (hg _ wF_X12_34) (fun _ h9 => h9) rfl dX12_rows_576 ?_
          refine lv_iload_n hx hb dX12_rows_579 rfl (lv_at hl 3 rfl) ?_
          refine va_iald hx hb hK hP 7 0 rfl rfl (by assumption) dX12_rows_580 ?_
          refine lv_iload_n hx hb dX12_rows_581 rfl (lv_at hl 4 rfl) ?_
          refine cV_i (C := RX12) (n := 2) (rest := []) hx hb hml hown hg hT (c_X12_indexN l dC dI g ty H.size Y pa kp ks I tl ac wr tw (P.2.2.2.2.2.1 y) (pa a0.toNatClampNeg) b0 (by exact hvt.1) (by exact hvt.2.1) (by exact hvt.2.2.1)) (cv_of hg wM_X12_137 wN_X12_index wL_X12_X12_index wK_X12_index wI_X12 (by decide +kernel) ⟨Nat.le_of_ble_eq_true rfl, Nat.le_of_ble_eq_true rfl⟩) hK hP hD hS hA (va_recv hK hP (ci := 14) (q0 := 0) rfl rfl) rfl hl.1 rfl (Nat.le_of_ble_eq_true rfl) dX12_rows_582 ⟨Nat.le_of_ble_eq_true rfl, Nat.le_of_ble_eq_true rfl⟩ (fun r_265 u_266 H locs q_264 hP hD hS => ?_)
          rcases q_264 with ⟨rfl, rfl, f_267⟩ | ⟨rfl, rfl, f_268⟩
          · show _
            have hP : va_P (dC, dI) vwCl (rW g ty Y pa kp ks I tl ac 2 tw) H := hP
            have hD : va_D A (rW g ty Y pa kp ks I tl ac 2 tw) := hD
            refine lv_if_ne (tgt := 593) hx hb dX12_rows_585 (by decide) (fun c9 => absurd (by decide) c9) (fun _ => ?_)
            refine lv_aload_n hx hb dX12_rows_588 rfl (lv_at hl 1 rfl) ?_
            refine cV_l (C := RX12) (n := 0) (rest := []) hx hb hml hown hg hT (c_X12_no l dC dI g ty H.size Y pa kp ks I tl ac 2 tw  ) (cv_of hg wM_X12_107 wN_X12_no wL_X12_X12_no wK_X12_no wI_X12 (by decide +kernel) ⟨Nat.le_of_ble_eq_true rfl, Nat.le_of_ble_eq_true rfl⟩) hK hP hD hS hA (va_recv hK hP (ci := 14) (q0 := 0) rfl rfl) rfl hl.1 rfl (Nat.le_of_ble_eq_true rfl) dX12_rows_589 ⟨Nat.le_of_ble_eq_true rfl, Nat.le_of_ble_eq_true rfl⟩ (fun r_270 u_271 H locs q_269 hP hD hS => ?_)
            obtain ⟨rfl, rfl⟩ := q_269
            have hP : va_P (dC, dI) vwCl (rW g ty Y pa kp ks I tl ac 2 1) H := hP
            have hD : va_D A (rW g ty Y pa kp ks I tl ac 2 1) := hD
            refine cr_l (wo := fun u : rY × (Nat → Int32) × (Nat → Int32) × (Nat → Int32) × Int32 × Int32 => rW g ty u.1 u.2.1 u.2.2.1 ks I u.2.2.2.1 ac u.2.2.2.2.1 u.2.2.2.2.2) ((Y, pa, kp, tl, 2, 1)) hx hb hr hlk hS hP hD ?_ dX12_rows_592
            exact ⟨0, Y, pa, kp, tl, 2, 1, rfl, rfl, (by exact ra_f (f := 2) rel hcnt htl (by decide))⟩
          · show _
            exact absurd f_268 (by assumption)
      · show _
        exact absurd (g6.symm.trans f_257) (by simp)
  · show _
    obtain ⟨n1t, n2t, n3t⟩ := rk_some rel g2 g3
    have hnet := (i32_pos n1t).2.1
    have tht := wf.1 _ _ g3
    obtain ⟨n1q6, n2q6, n3q6⟩ := rk_some rel g5 g6
    have hneq6 := (i32_pos n1q6).2.1
    have thq6 := wf.1 _ _ g6
    have kt := cIs_1 (ki_8 wf tht.1 tht.2 g4)
    have kq6 := cIs_0 (ki_row0 wf thq6.1 thq6.2 g6x0)
    have hvt := rv_shelf rel n1t n2t n3t kt g7
    have hl : lv_has ls 8 [(0, .ref (g 8)), (1, .int 8), (2, .int a0), (3, .int b0), (4, .int c0)] := hl
    refine lv_iload_n hx hb dX12_rows_0 rfl (lv_at hl 3 rfl) ?_
    refine lv_bipush (v := 7) hx hb dX12_rows_1 (by decide) ?_
    refine lv_iand hx hb dX12_rows_3 ?_
    refine lv_istore (lv' := [(5, .int (b0 &&& 7)), (0, .ref (g 8)), (1, .int 8), (2, .int a0), (3, .int b0), (4, .int c0)]) hx hb dX12_rows_4 hl (by decide) rfl (fun ls hl => ?_)
    refine lv_iload_n hx hb dX12_rows_6 rfl (lv_at hl 2 rfl) ?_
    refine lv_tableOut (tgt := 546) hx hb dX12_rows_7 (by decide) (by decide) ?_
    refine lv_aload_n hx hb dX12_rows_546 rfl (lv_at hl 1 rfl) ?_
    refine lv_iload_n hx hb dX12_rows_547 rfl (lv_at hl 3 rfl) ?_
    refine lv_bipush (v := 8) hx hb dX12_rows_548 (by decide) ?_
    refine cV_i (C := RX12) (n := 2) (rest := []) hx hb hml hown hg hT (c_X12_thing l dC dI g ty s.heap.size Y pa kp ks I tl ac wr tw ρ pl P a0 8 (by exact rel) (by exact wf) (by exact i32_in (by decide) (by decide))) (cv_of hg wM_X12_131 wN_X12_thing wL_X12_X12_thing wK_X12_thing wI_X12 (by decide +kernel) ⟨Nat.le_of_ble_eq_true rfl, Nat.le_of_ble_eq_true rfl⟩) hK hP hD hS hA (va_recv hK hP (ci := 14) (q0 := 0) rfl rfl) rfl hl.1 rfl (Nat.le_of_ble_eq_true rfl) dX12_rows_550 ⟨Nat.le_of_ble_eq_true rfl, Nat.le_of_ble_eq_true rfl⟩ (fun r_273 u_274 H locs q_272 hP hD hS => ?_)
    rcases q_272 with ⟨rfl, rfl, f_275⟩ | ⟨t_276, rfl, rfl, f_277, f_278, f_279⟩ | ⟨rfl, rfl, f_280, f_281⟩ | ⟨t_282, rfl, rfl, f_283, f_284, f_285⟩
    · show _
      exact absurd (by assumption) f_275
    · show _
      obtain rfl := Option.some.inj (g3.symm.trans f_278); exact absurd (g4.symm.trans f_279) (by decide)
    · show _
      exact absurd (g3.symm.trans f_281) (by simp)
    · show _
      obtain rfl := Option.some.inj (g3.symm.trans f_284)
      have hP : va_P (dC, dI) vwCl (rW g ty Y pa kp ks I tl ac wr tw) H := hP
      have hD : va_D A (rW g ty Y pa kp ks I tl ac wr tw) := hD
      refine lv_if_eq (tgt := 588) hx hb dX12_rows_553 (by decide) (fun c9 => absurd c9 (by decide)) (fun _ => ?_)
      refine lv_aload_n hx hb dX12_rows_556 rfl (lv_at hl 1 rfl) ?_
      refine lv_iload hx hb dX12_rows_557 (lv_at hl 5 rfl) ?_
      refine lv_iconst (v := 0) hx hb dX12_rows_559 (by decide) ?_
      refine cV_i (C := RX12) (n := 2) (rest := []) hx hb hml hown hg hT (c_X12_thing l dC dI g ty H.size Y pa kp ks I tl ac wr tw ρ pl P c0 0 (by exact rel) (by exact wf) (by exact i32_in (by decide) (by decide))) (cv_of hg wM_X12_131 wN_X12_thing wL_X12_X12_thing wK_X12_thing wI_X12 (by decide +kernel) ⟨Nat.le_of_ble_eq_true rfl, Nat.le_of_ble_eq_true rfl⟩) hK hP hD hS hA (va_recv hK hP (ci := 14) (q0 := 0) rfl rfl) rfl hl.1 rfl (Nat.le_of_ble_eq_true rfl) dX12_rows_560 ⟨Nat.le_of_ble_eq_true rfl, Nat.le_of_ble_eq_true rfl⟩ (fun r_287 u_288 H locs q_286 hP hD hS => ?_)
      rcases q_286 with ⟨rfl, rfl, f_289⟩ | ⟨t_290, rfl, rfl, f_291, f_292, f_293⟩ | ⟨rfl, rfl, f_294, f_295⟩ | ⟨t_296, rfl, rfl, f_297, f_298, f_299⟩
      · show _
        exact absurd (by assumption) f_289
      · show _
        obtain rfl := Option.some.inj (g6.symm.trans f_292); exact absurd (g6x0.symm.trans f_293) (by decide)
      · show _
        exact absurd (g6.symm.trans f_295) (by simp)
      · show _
        obtain rfl := Option.some.inj (g6.symm.trans f_298)
        have hP : va_P (dC, dI) vwCl (rW g ty Y pa kp ks I tl ac wr tw) H := hP
        have hD : va_D A (rW g ty Y pa kp ks I tl ac wr tw) := hD
        refine lv_if_eq (tgt := 588) hx hb dX12_rows_563 (by decide) (fun c9 => absurd c9 (by decide)) (fun _ => ?_)
        refine lv_aload_n hx hb dX12_rows_566 rfl (lv_at hl 1 rfl) ?_
        refine lv_iload_n hx hb dX12_rows_567 rfl (lv_at hl 3 rfl) ?_
        refine cV_i (C := RX12) (n := 1) (rest := []) hx hb hml hown hg hT (c_X12_need l dC dI g ty H.size Y pa kp ks I tl ac wr tw a0 (by assumption)) (cv_of hg wM_X12_134 wN_X12_need wL_X12_X12_need wK_X12_need wI_X12 (by decide +kernel) ⟨Nat.le_of_ble_eq_true rfl, Nat.le_of_ble_eq_true rfl⟩) hK hP hD hS hA (va_recv hK hP (ci := 14) (q0 := 0) rfl rfl) rfl hl.1 rfl (Nat.le_of_ble_eq_true rfl) dX12_rows_568 ⟨Nat.le_of_ble_eq_true rfl, Nat.le_of_ble_eq_true rfl⟩ (fun r_301 u_302 H locs q_300 hP hD hS => ?_)
        rcases q_300 with ⟨rfl, rfl, f_303⟩ | ⟨rfl, rfl, f_304⟩
        · show _
          exact absurd f_303 (by assumption)
        · show _
          have hP : va_P (dC, dI) vwCl (rW g ty Y pa kp ks I tl ac wr tw) H := hP
          have hD : va_D A (rW g ty Y pa kp ks I tl ac wr tw) := hD
          refine lv_if_eq (tgt := 588) hx hb dX12_rows_571 (by decide) (fun c9 => absurd c9 (by decide)) (fun _ => ?_)
          refine lv_aload_n hx hb dX12_rows_574 rfl (lv_at hl 1 rfl) ?_
          refine lv_aload_n hx hb dX12_rows_575 rfl (lv_at hl 1 rfl) ?_
          refine va_get (D := (dC, dI)) (ci := 14) (v := .ref (g 9)) (C := RX12) (T := TX12) (N := 21) hx hb hg inG12 hown hK hP 0 rfl rfl 8 (by decide) (hg _ wF_X12_34) (fun _ h9 => h9) rfl dX12_rows_576 ?_
          refine lv_iload_n hx hb dX12_rows_579 rfl (lv_at hl 3 rfl) ?_
          refine va_iald hx hb hK hP 7 0 rfl rfl (by assumption) dX12_rows_580 ?_
          refine lv_iload_n hx hb dX12_rows_581 rfl (lv_at hl 4 rfl) ?_
          refine cV_i (C := RX12) (n := 2) (rest := []) hx hb hml hown hg hT (c_X12_indexN l dC dI g ty H.size Y pa kp ks I tl ac wr tw (P.2.2.2.2.2.1 y) (pa a0.toNatClampNeg) b0 (by exact hvt.1) (by exact hvt.2.1) (by exact hvt.2.2.1)) (cv_of hg wM_X12_137 wN_X12_index wL_X12_X12_index wK_X12_index wI_X12 (by decide +kernel) ⟨Nat.le_of_ble_eq_true rfl, Nat.le_of_ble_eq_true rfl⟩) hK hP hD hS hA (va_recv hK hP (ci := 14) (q0 := 0) rfl rfl) rfl hl.1 rfl (Nat.le_of_ble_eq_true rfl) dX12_rows_582 ⟨Nat.le_of_ble_eq_true rfl, Nat.le_of_ble_eq_true rfl⟩ (fun r_306 u_307 H locs q_305 hP hD hS => ?_)
          rcases q_305 with ⟨rfl, rfl, f_308⟩ | ⟨rfl, rfl, f_309⟩
          · show _
            have hP : va_P (dC, dI) vwCl (rW g ty Y pa kp ks I tl ac 2 tw) H := hP
            have hD : va_D A (rW g ty Y pa kp ks I tl ac 2 tw) := hD
            refine lv_if_ne (tgt := 593) hx hb dX12_rows_585 (by decide) (fun c9 => absurd (by decide) c9) (fun _ => ?_)
            refine lv_aload_n hx hb dX12_rows_588 rfl (lv_at hl 1 rfl) ?_
            refine cV_l (C := RX12) (n := 0) (rest := []) hx hb hml hown hg hT (c_X12_no l dC dI g ty H.size Y pa kp ks I tl ac 2 tw  ) (cv_of hg wM_X12_107 wN_X12_no wL_X12_X12_no wK_X12_no wI_X12 (by decide +kernel) ⟨Nat.le_of_ble_eq_true rfl, Nat.le_of_ble_eq_true rfl⟩) hK hP hD hS hA (va_recv hK hP (ci := 14) (q0 := 0) rfl rfl) rfl hl.1 rfl (Nat.le_of_ble_eq_true rfl) dX12_rows_589 ⟨Nat.le_of_ble_eq_true rfl, Nat.le_of_ble_eq_true rfl⟩ (fun r_311 u_312 H locs q_310 hP hD hS => ?_)
            obtain ⟨rfl, rfl⟩ := q_310
            have hP : va_P (dC, dI) vwCl (rW g ty Y pa kp ks I tl ac 2 1) H := hP
            have hD : va_D A (rW g ty Y pa kp ks I tl ac 2 1) := hD
            refine cr_l (wo := fun u : rY × (Nat → Int32) × (Nat → Int32) × (Nat → Int32) × Int32 × Int32 => rW g ty u.1 u.2.1 u.2.2.1 ks I u.2.2.2.1 ac u.2.2.2.2.1 u.2.2.2.2.2) ((Y, pa, kp, tl, 2, 1)) hx hb hr hlk hS hP hD ?_ dX12_rows_592
            exact ⟨0, Y, pa, kp, tl, 2, 1, rfl, rfl, (by exact ra_f (f := 2) rel hcnt htl (by decide))⟩
          · show _
            exact absurd f_309 (by assumption)
  · show _
    exact absurd (g9.symm.trans ((sh_rim wf g3 g4).1 rfl ▸ g10)) (by decide)
  · show _
    obtain ⟨n1t, n2t, n3t⟩ := rk_some rel g2 g3
    have hnet := (i32_pos n1t).2.1
    have tht := wf.1 _ _ g3
    have hzc0 := rk_none rel g5 g8
    have kt := cIs_1 (ki_8 wf tht.1 tht.2 g4)
    have hvt := rv_shelf rel n1t n2t n3t kt g6
    have hl : lv_has ls 8 [(0, .ref (g 8)), (1, .int 8), (2, .int a0), (3, .int b0), (4, .int c0)] := hl
    refine lv_iload_n hx hb dX12_rows_0 rfl (lv_at hl 3 rfl) ?_
    refine lv_bipush (v := 7) hx hb dX12_rows_1 (by decide) ?_
    refine lv_iand hx hb dX12_rows_3 ?_
    refine lv_istore (lv' := [(5, .int (b0 &&& 7)), (0, .ref (g 8)), (1, .int 8), (2, .int a0), (3, .int b0), (4, .int c0)]) hx hb dX12_rows_4 hl (by decide) rfl (fun ls hl => ?_)
    refine lv_iload_n hx hb dX12_rows_6 rfl (lv_at hl 2 rfl) ?_
    refine lv_tableOut (tgt := 546) hx hb dX12_rows_7 (by decide) (by decide) ?_
    refine lv_aload_n hx hb dX12_rows_546 rfl (lv_at hl 1 rfl) ?_
    refine lv_iload_n hx hb dX12_rows_547 rfl (lv_at hl 3 rfl) ?_
    refine lv_bipush (v := 8) hx hb dX12_rows_548 (by decide) ?_
    refine cV_i (C := RX12) (n := 2) (rest := []) hx hb hml hown hg hT (c_X12_thing l dC dI g ty s.heap.size Y pa kp ks I tl ac wr tw ρ pl P a0 8 (by exact rel) (by exact wf) (by exact i32_in (by decide) (by decide))) (cv_of hg wM_X12_131 wN_X12_thing wL_X12_X12_thing wK_X12_thing wI_X12 (by decide +kernel) ⟨Nat.le_of_ble_eq_true rfl, Nat.le_of_ble_eq_true rfl⟩) hK hP hD hS hA (va_recv hK hP (ci := 14) (q0 := 0) rfl rfl) rfl hl.1 rfl (Nat.le_of_ble_eq_true rfl) dX12_rows_550 ⟨Nat.le_of_ble_eq_true rfl, Nat.le_of_ble_eq_true rfl⟩ (fun r_314 u_315 H locs q_313 hP hD hS => ?_)
    rcases q_313 with ⟨rfl, rfl, f_316⟩ | ⟨t_317, rfl, rfl, f_318, f_319, f_320⟩ | ⟨rfl, rfl, f_321, f_322⟩ | ⟨t_323, rfl, rfl, f_324, f_325, f_326⟩
    · show _
      exact absurd (by assumption) f_316
    · show _
      obtain rfl := Option.some.inj (g3.symm.trans f_319); exact absurd (g4.symm.trans f_320) (by decide)
    · show _
      exact absurd (g3.symm.trans f_322) (by simp)
    · show _
      obtain rfl := Option.some.inj (g3.symm.trans f_325)
      have hP : va_P (dC, dI) vwCl (rW g ty Y pa kp ks I tl ac wr tw) H := hP
      have hD : va_D A (rW g ty Y pa kp ks I tl ac wr tw) := hD
      refine lv_if_eq (tgt := 588) hx hb dX12_rows_553 (by decide) (fun c9 => absurd c9 (by decide)) (fun _ => ?_)
      refine lv_aload_n hx hb dX12_rows_556 rfl (lv_at hl 1 rfl) ?_
      refine lv_iload hx hb dX12_rows_557 (lv_at hl 5 rfl) ?_
      refine lv_iconst (v := 0) hx hb dX12_rows_559 (by decide) ?_
      refine cV_i (C := RX12) (n := 2) (rest := []) hx hb hml hown hg hT (c_X12_thing l dC dI g ty H.size Y pa kp ks I tl ac wr tw ρ pl P c0 0 (by exact rel) (by exact wf) (by exact i32_in (by decide) (by decide))) (cv_of hg wM_X12_131 wN_X12_thing wL_X12_X12_thing wK_X12_thing wI_X12 (by decide +kernel) ⟨Nat.le_of_ble_eq_true rfl, Nat.le_of_ble_eq_true rfl⟩) hK hP hD hS hA (va_recv hK hP (ci := 14) (q0 := 0) rfl rfl) rfl hl.1 rfl (Nat.le_of_ble_eq_true rfl) dX12_rows_560 ⟨Nat.le_of_ble_eq_true rfl, Nat.le_of_ble_eq_true rfl⟩ (fun r_328 u_329 H locs q_327 hP hD hS => ?_)
      rcases q_327 with ⟨rfl, rfl, f_330⟩ | ⟨t_331, rfl, rfl, f_332, f_333, f_334⟩ | ⟨rfl, rfl, f_335, f_336⟩ | ⟨t_337, rfl, rfl, f_338, f_339, f_340⟩
      · show _
        exact absurd (by assumption) f_330
      · show _
        exact absurd (g8.symm.trans f_333) (by simp)
      · show _
        have hP : va_P (dC, dI) vwCl (rW g ty Y pa kp ks I tl ac wr tw) H := hP
        have hD : va_D A (rW g ty Y pa kp ks I tl ac wr tw) := hD
        refine lv_if_eq (tgt := 588) hx hb dX12_rows_563 (by decide) (fun c9 => absurd c9 (by decide)) (fun _ => ?_)
        refine lv_aload_n hx hb dX12_rows_566 rfl (lv_at hl 1 rfl) ?_
        refine lv_iload_n hx hb dX12_rows_567 rfl (lv_at hl 3 rfl) ?_
        refine cV_i (C := RX12) (n := 1) (rest := []) hx hb hml hown hg hT (c_X12_need l dC dI g ty H.size Y pa kp ks I tl ac wr tw a0 (by assumption)) (cv_of hg wM_X12_134 wN_X12_need wL_X12_X12_need wK_X12_need wI_X12 (by decide +kernel) ⟨Nat.le_of_ble_eq_true rfl, Nat.le_of_ble_eq_true rfl⟩) hK hP hD hS hA (va_recv hK hP (ci := 14) (q0 := 0) rfl rfl) rfl hl.1 rfl (Nat.le_of_ble_eq_true rfl) dX12_rows_568 ⟨Nat.le_of_ble_eq_true rfl, Nat.le_of_ble_eq_true rfl⟩ (fun r_342 u_343 H locs q_341 hP hD hS => ?_)
        rcases q_341 with ⟨rfl, rfl, f_344⟩ | ⟨rfl, rfl, f_345⟩
        · show _
          exact absurd f_344 (by assumption)
        · show _
          have hP : va_P (dC, dI) vwCl (rW g ty Y pa kp ks I tl ac wr tw) H := hP
          have hD : va_D A (rW g ty Y pa kp ks I tl ac wr tw) := hD
          refine lv_if_eq (tgt := 588) hx hb dX12_rows_571 (by decide) (fun c9 => absurd c9 (by decide)) (fun _ => ?_)
          refine lv_aload_n hx hb dX12_rows_574 rfl (lv_at hl 1 rfl) ?_
          refine lv_aload_n hx hb dX12_rows_575 rfl (lv_at hl 1 rfl) ?_
          refine va_get (D := (dC, dI)) (ci := 14) (v := .ref (g 9)) (C := RX12) (T := TX12) (N := 21) hx hb hg inG12 hown hK hP 0 rfl rfl 8 (by decide) (hg _ wF_X12_34) (fun _ h9 => h9) rfl dX12_rows_576 ?_
          refine lv_iload_n hx hb dX12_rows_579 rfl (lv_at hl 3 rfl) ?_
          refine va_iald hx hb hK hP 7 0 rfl rfl (by assumption) dX12_rows_580 ?_
          refine lv_iload_n hx hb dX12_rows_581 rfl (lv_at hl 4 rfl) ?_
          refine cV_i (C := RX12) (n := 2) (rest := []) hx hb hml hown hg hT (c_X12_indexN l dC dI g ty H.size Y pa kp ks I tl ac wr tw (P.2.2.2.2.2.1 y) (pa a0.toNatClampNeg) b0 (by exact hvt.1) (by exact hvt.2.1) (by exact hvt.2.2.1)) (cv_of hg wM_X12_137 wN_X12_index wL_X12_X12_index wK_X12_index wI_X12 (by decide +kernel) ⟨Nat.le_of_ble_eq_true rfl, Nat.le_of_ble_eq_true rfl⟩) hK hP hD hS hA (va_recv hK hP (ci := 14) (q0 := 0) rfl rfl) rfl hl.1 rfl (Nat.le_of_ble_eq_true rfl) dX12_rows_582 ⟨Nat.le_of_ble_eq_true rfl, Nat.le_of_ble_eq_true rfl⟩ (fun r_347 u_348 H locs q_346 hP hD hS => ?_)
          rcases q_346 with ⟨rfl, rfl, f_349⟩ | ⟨rfl, rfl, f_350⟩
          · show _
            exact absurd (by assumption) f_349
          · show _
            have hP : va_P (dC, dI) vwCl (rW g ty Y pa kp ks I tl ac wr tw) H := hP
            have hD : va_D A (rW g ty Y pa kp ks I tl ac wr tw) := hD
            refine lv_if_ne (tgt := 593) hx hb dX12_rows_585 (by decide) (fun _ => ?_) (fun c9 => absurd c9 (by decide)) 
            refine lv_aload_n hx hb dX12_rows_593 rfl (lv_at hl 1 rfl) ?_
            refine lv_aload_n hx hb dX12_rows_594 rfl (lv_at hl 1 rfl) ?_
            refine va_get (D := (dC, dI)) (ci := 14) (v := .ref (g 9)) (C := RX12) (T := TX12) (N := 21) hx hb hg inG12 hown hK hP 0 rfl rfl 8 (by decide) (hg _ wF_X12_34) (fun _ h9 => h9) rfl dX12_rows_595 ?_
            refine lv_iload_n hx hb dX12_rows_598 rfl (lv_at hl 3 rfl) ?_
            refine va_iald hx hb hK hP 7 0 rfl rfl (by assumption) dX12_rows_599 ?_
            refine lv_iload_n hx hb dX12_rows_600 rfl (lv_at hl 4 rfl) ?_
            refine lv_aload_n hx hb dX12_rows_601 rfl (lv_at hl 1 rfl) ?_
            refine va_get (D := (dC, dI)) (ci := 14) (v := .ref (g 9)) (C := RX12) (T := TX12) (N := 21) hx hb hg inG12 hown hK hP 0 rfl rfl 8 (by decide) (hg _ wF_X12_34) (fun _ h9 => h9) rfl dX12_rows_602 ?_
            refine lv_iload hx hb dX12_rows_605 (lv_at hl 5 rfl) ?_
            refine va_iald hx hb hK hP 7 0 rfl rfl (by assumption) dX12_rows_607 ?_
            refine lv_i2l (v := ((pa c0.toNatClampNeg).toInt64)) hx hb dX12_rows_608 rfl ?_
            refine cV_v (C := RX12) (n := 3) (rest := []) hx hb hml hown hg hT (c_X12_put l dC dI g ty H.size Y pa kp ks I tl ac wr tw (pa a0.toNatClampNeg) b0 ((pa c0.toNatClampNeg).toInt64) (by exact hvt.1) (by exact (hvt.2.2.2 _ (by assumption)).1)) (cv_of hg wM_X12_151 wN_X12_put wL_X12_X12_put wK_X12_put wI_X12 (by decide +kernel) ⟨Nat.le_of_ble_eq_true rfl, Nat.le_of_ble_eq_true rfl⟩) hK hP hD hS hA (va_recv hK hP (ci := 14) (q0 := 0) rfl rfl) rfl hl.1 rfl (Nat.le_of_ble_eq_true rfl) dX12_rows_609 ⟨Nat.le_of_ble_eq_true rfl, Nat.le_of_ble_eq_true rfl⟩ (fun u_353 H locs q_351 hP hD hS => ?_)
            obtain rfl := q_351
            have hP : va_P (dC, dI) vwCl (rW g ty (Y.1, Y.2.1, Y.2.2.1, Y.2.2.2.1, Y.2.2.2.2.1, (vp_updL Y.2.2.2.2.2.1 (Y.2.1 (pa a0.toNatClampNeg).toNatClampNeg + b0).toNatClampNeg ((pa c0.toNatClampNeg).toInt64)), Y.2.2.2.2.2.2.1, Y.2.2.2.2.2.2.2.1, Y.2.2.2.2.2.2.2.2.1, Y.2.2.2.2.2.2.2.2.2.1, Y.2.2.2.2.2.2.2.2.2.2) pa kp ks I tl ac wr tw) H := hP
            have hD : va_D A (rW g ty (Y.1, Y.2.1, Y.2.2.1, Y.2.2.2.1, Y.2.2.2.2.1, (vp_updL Y.2.2.2.2.2.1 (Y.2.1 (pa a0.toNatClampNeg).toNatClampNeg + b0).toNatClampNeg ((pa c0.toNatClampNeg).toInt64)), Y.2.2.2.2.2.2.1, Y.2.2.2.2.2.2.2.1, Y.2.2.2.2.2.2.2.2.1, Y.2.2.2.2.2.2.2.2.2.1, Y.2.2.2.2.2.2.2.2.2.2) pa kp ks I tl ac wr tw) := hD
            refine lv_lconst (v := 0) hx hb dX12_rows_612 (by decide) ?_
            refine cr_l (wo := fun u : rY × (Nat → Int32) × (Nat → Int32) × (Nat → Int32) × Int32 × Int32 => rW g ty u.1 u.2.1 u.2.2.1 ks I u.2.2.2.1 ac u.2.2.2.2.1 u.2.2.2.2.2) (((Y.1, Y.2.1, Y.2.2.1, Y.2.2.2.1, Y.2.2.2.2.1, (vp_updL Y.2.2.2.2.2.1 (Y.2.1 (pa a0.toNatClampNeg).toNatClampNeg + b0).toNatClampNeg ((pa c0.toNatClampNeg).toInt64)), Y.2.2.2.2.2.2.1, Y.2.2.2.2.2.2.2.1, Y.2.2.2.2.2.2.2.2.1, Y.2.2.2.2.2.2.2.2.2.1, Y.2.2.2.2.2.2.2.2.2.2), pa, kp, tl, wr, tw)) hx hb hr hlk hS hP hD ?_ dX12_rows_613
            exact ⟨0, (Y.1, Y.2.1, Y.2.2.1, Y.2.2.2.1, Y.2.2.2.2.1, (vp_updL Y.2.2.2.2.2.1 (Y.2.1 (pa a0.toNatClampNeg).toNatClampNeg + b0).toNatClampNeg ((pa c0.toNatClampNeg).toInt64)), Y.2.2.2.2.2.2.1, Y.2.2.2.2.2.2.2.1, Y.2.2.2.2.2.2.2.2.1, Y.2.2.2.2.2.2.2.2.2.1, Y.2.2.2.2.2.2.2.2.2.2), pa, kp, tl, wr, tw, rfl, rfl, (by subst pre6; exact ra_w (rw_shelf wf rel n1t n2t n3t kt g6 f_350 (pl_ll rel f_335 f_336) rfl) ⟨rfl, rfl, rfl, rfl⟩ hcnt htl rfl)⟩
      · show _
        exact absurd (g8.symm.trans f_339) (by simp)
  · show _
    obtain ⟨n1t, n2t, n3t⟩ := rk_some rel g2 g3
    have hnet := (i32_pos n1t).2.1
    have tht := wf.1 _ _ g3
    obtain ⟨n1q9, n2q9, n3q9⟩ := rk_some rel g5 g8
    have hneq9 := (i32_pos n1q9).2.1
    have thq9 := wf.1 _ _ g8
    have kt := cIs_1 (ki_8 wf tht.1 tht.2 g4)
    have kq9 := cIs_0 (ki_row0 wf thq9.1 thq9.2 g9x0)
    have hvt := rv_shelf rel n1t n2t n3t kt g6
    have hl : lv_has ls 8 [(0, .ref (g 8)), (1, .int 8), (2, .int a0), (3, .int b0), (4, .int c0)] := hl
    refine lv_iload_n hx hb dX12_rows_0 rfl (lv_at hl 3 rfl) ?_
    refine lv_bipush (v := 7) hx hb dX12_rows_1 (by decide) ?_
    refine lv_iand hx hb dX12_rows_3 ?_
    refine lv_istore (lv' := [(5, .int (b0 &&& 7)), (0, .ref (g 8)), (1, .int 8), (2, .int a0), (3, .int b0), (4, .int c0)]) hx hb dX12_rows_4 hl (by decide) rfl (fun ls hl => ?_)
    refine lv_iload_n hx hb dX12_rows_6 rfl (lv_at hl 2 rfl) ?_
    refine lv_tableOut (tgt := 546) hx hb dX12_rows_7 (by decide) (by decide) ?_
    refine lv_aload_n hx hb dX12_rows_546 rfl (lv_at hl 1 rfl) ?_
    refine lv_iload_n hx hb dX12_rows_547 rfl (lv_at hl 3 rfl) ?_
    refine lv_bipush (v := 8) hx hb dX12_rows_548 (by decide) ?_
    refine cV_i (C := RX12) (n := 2) (rest := []) hx hb hml hown hg hT (c_X12_thing l dC dI g ty s.heap.size Y pa kp ks I tl ac wr tw ρ pl P a0 8 (by exact rel) (by exact wf) (by exact i32_in (by decide) (by decide))) (cv_of hg wM_X12_131 wN_X12_thing wL_X12_X12_thing wK_X12_thing wI_X12 (by decide +kernel) ⟨Nat.le_of_ble_eq_true rfl, Nat.le_of_ble_eq_true rfl⟩) hK hP hD hS hA (va_recv hK hP (ci := 14) (q0 := 0) rfl rfl) rfl hl.1 rfl (Nat.le_of_ble_eq_true rfl) dX12_rows_550 ⟨Nat.le_of_ble_eq_true rfl, Nat.le_of_ble_eq_true rfl⟩ (fun r_355 u_356 H locs q_354 hP hD hS => ?_)
    rcases q_354 with ⟨rfl, rfl, f_357⟩ | ⟨t_358, rfl, rfl, f_359, f_360, f_361⟩ | ⟨rfl, rfl, f_362, f_363⟩ | ⟨t_364, rfl, rfl, f_365, f_366, f_367⟩
    · show _
      exact absurd (by assumption) f_357
    · show _
      obtain rfl := Option.some.inj (g3.symm.trans f_360); exact absurd (g4.symm.trans f_361) (by decide)
    · show _
      exact absurd (g3.symm.trans f_363) (by simp)
    · show _
      obtain rfl := Option.some.inj (g3.symm.trans f_366)
      have hP : va_P (dC, dI) vwCl (rW g ty Y pa kp ks I tl ac wr tw) H := hP
      have hD : va_D A (rW g ty Y pa kp ks I tl ac wr tw) := hD
      refine lv_if_eq (tgt := 588) hx hb dX12_rows_553 (by decide) (fun c9 => absurd c9 (by decide)) (fun _ => ?_)
      refine lv_aload_n hx hb dX12_rows_556 rfl (lv_at hl 1 rfl) ?_
      refine lv_iload hx hb dX12_rows_557 (lv_at hl 5 rfl) ?_
      refine lv_iconst (v := 0) hx hb dX12_rows_559 (by decide) ?_
      refine cV_i (C := RX12) (n := 2) (rest := []) hx hb hml hown hg hT (c_X12_thing l dC dI g ty H.size Y pa kp ks I tl ac wr tw ρ pl P c0 0 (by exact rel) (by exact wf) (by exact i32_in (by decide) (by decide))) (cv_of hg wM_X12_131 wN_X12_thing wL_X12_X12_thing wK_X12_thing wI_X12 (by decide +kernel) ⟨Nat.le_of_ble_eq_true rfl, Nat.le_of_ble_eq_true rfl⟩) hK hP hD hS hA (va_recv hK hP (ci := 14) (q0 := 0) rfl rfl) rfl hl.1 rfl (Nat.le_of_ble_eq_true rfl) dX12_rows_560 ⟨Nat.le_of_ble_eq_true rfl, Nat.le_of_ble_eq_true rfl⟩ (fun r_369 u_370 H locs q_368 hP hD hS => ?_)
      rcases q_368 with ⟨rfl, rfl, f_371⟩ | ⟨t_372, rfl, rfl, f_373, f_374, f_375⟩ | ⟨rfl, rfl, f_376, f_377⟩ | ⟨t_378, rfl, rfl, f_379, f_380, f_381⟩
      · show _
        exact absurd (by assumption) f_371
      · show _
        obtain rfl := Option.some.inj (g8.symm.trans f_374); exact absurd (g9x0.symm.trans f_375) (by decide)
      · show _
        exact absurd (g8.symm.trans f_377) (by simp)
      · show _
        obtain rfl := Option.some.inj (g8.symm.trans f_380)
        have hP : va_P (dC, dI) vwCl (rW g ty Y pa kp ks I tl ac wr tw) H := hP
        have hD : va_D A (rW g ty Y pa kp ks I tl ac wr tw) := hD
        refine lv_if_eq (tgt := 588) hx hb dX12_rows_563 (by decide) (fun c9 => absurd c9 (by decide)) (fun _ => ?_)
        refine lv_aload_n hx hb dX12_rows_566 rfl (lv_at hl 1 rfl) ?_
        refine lv_iload_n hx hb dX12_rows_567 rfl (lv_at hl 3 rfl) ?_
        refine cV_i (C := RX12) (n := 1) (rest := []) hx hb hml hown hg hT (c_X12_need l dC dI g ty H.size Y pa kp ks I tl ac wr tw a0 (by assumption)) (cv_of hg wM_X12_134 wN_X12_need wL_X12_X12_need wK_X12_need wI_X12 (by decide +kernel) ⟨Nat.le_of_ble_eq_true rfl, Nat.le_of_ble_eq_true rfl⟩) hK hP hD hS hA (va_recv hK hP (ci := 14) (q0 := 0) rfl rfl) rfl hl.1 rfl (Nat.le_of_ble_eq_true rfl) dX12_rows_568 ⟨Nat.le_of_ble_eq_true rfl, Nat.le_of_ble_eq_true rfl⟩ (fun r_383 u_384 H locs q_382 hP hD hS => ?_)
        rcases q_382 with ⟨rfl, rfl, f_385⟩ | ⟨rfl, rfl, f_386⟩
        · show _
          exact absurd f_385 (by assumption)
        · show _
          have hP : va_P (dC, dI) vwCl (rW g ty Y pa kp ks I tl ac wr tw) H := hP
          have hD : va_D A (rW g ty Y pa kp ks I tl ac wr tw) := hD
          refine lv_if_eq (tgt := 588) hx hb dX12_rows_571 (by decide) (fun c9 => absurd c9 (by decide)) (fun _ => ?_)
          refine lv_aload_n hx hb dX12_rows_574 rfl (lv_at hl 1 rfl) ?_
          refine lv_aload_n hx hb dX12_rows_575 rfl (lv_at hl 1 rfl) ?_
          refine va_get (D := (dC, dI)) (ci := 14) (v := .ref (g 9)) (C := RX12) (T := TX12) (N := 21) hx hb hg inG12 hown hK hP 0 rfl rfl 8 (by decide) (hg _ wF_X12_34) (fun _ h9 => h9) rfl dX12_rows_576 ?_
          refine lv_iload_n hx hb dX12_rows_579 rfl (lv_at hl 3 rfl) ?_
          refine va_iald hx hb hK hP 7 0 rfl rfl (by assumption) dX12_rows_580 ?_
          refine lv_iload_n hx hb dX12_rows_581 rfl (lv_at hl 4 rfl) ?_
          refine cV_i (C := RX12) (n := 2) (rest := []) hx hb hml hown hg hT (c_X12_indexN l dC dI g ty H.size Y pa kp ks I tl ac wr tw (P.2.2.2.2.2.1 y) (pa a0.toNatClampNeg) b0 (by exact hvt.1) (by exact hvt.2.1) (by exact hvt.2.2.1)) (cv_of hg wM_X12_137 wN_X12_index wL_X12_X12_index wK_X12_index wI_X12 (by decide +kernel) ⟨Nat.le_of_ble_eq_true rfl, Nat.le_of_ble_eq_true rfl⟩) hK hP hD hS hA (va_recv hK hP (ci := 14) (q0 := 0) rfl rfl) rfl hl.1 rfl (Nat.le_of_ble_eq_true rfl) dX12_rows_582 ⟨Nat.le_of_ble_eq_true rfl, Nat.le_of_ble_eq_true rfl⟩ (fun r_388 u_389 H locs q_387 hP hD hS => ?_)
          rcases q_387 with ⟨rfl, rfl, f_390⟩ | ⟨rfl, rfl, f_391⟩
          · show _
            exact absurd (by assumption) f_390
          · show _
            have hP : va_P (dC, dI) vwCl (rW g ty Y pa kp ks I tl ac wr tw) H := hP
            have hD : va_D A (rW g ty Y pa kp ks I tl ac wr tw) := hD
            refine lv_if_ne (tgt := 593) hx hb dX12_rows_585 (by decide) (fun _ => ?_) (fun c9 => absurd c9 (by decide)) 
            refine lv_aload_n hx hb dX12_rows_593 rfl (lv_at hl 1 rfl) ?_
            refine lv_aload_n hx hb dX12_rows_594 rfl (lv_at hl 1 rfl) ?_
            refine va_get (D := (dC, dI)) (ci := 14) (v := .ref (g 9)) (C := RX12) (T := TX12) (N := 21) hx hb hg inG12 hown hK hP 0 rfl rfl 8 (by decide) (hg _ wF_X12_34) (fun _ h9 => h9) rfl dX12_rows_595 ?_
            refine lv_iload_n hx hb dX12_rows_598 rfl (lv_at hl 3 rfl) ?_
            refine va_iald hx hb hK hP 7 0 rfl rfl (by assumption) dX12_rows_599 ?_
            refine lv_iload_n hx hb dX12_rows_600 rfl (lv_at hl 4 rfl) ?_
            refine lv_aload_n hx hb dX12_rows_601 rfl (lv_at hl 1 rfl) ?_
            refine va_get (D := (dC, dI)) (ci := 14) (v := .ref (g 9)) (C := RX12) (T := TX12) (N := 21) hx hb hg inG12 hown hK hP 0 rfl rfl 8 (by decide) (hg _ wF_X12_34) (fun _ h9 => h9) rfl dX12_rows_602 ?_
            refine lv_iload hx hb dX12_rows_605 (lv_at hl 5 rfl) ?_
            refine va_iald hx hb hK hP 7 0 rfl rfl (by assumption) dX12_rows_607 ?_
            refine lv_i2l (v := ((pa c0.toNatClampNeg).toInt64)) hx hb dX12_rows_608 rfl ?_
            refine cV_v (C := RX12) (n := 3) (rest := []) hx hb hml hown hg hT (c_X12_put l dC dI g ty H.size Y pa kp ks I tl ac wr tw (pa a0.toNatClampNeg) b0 ((pa c0.toNatClampNeg).toInt64) (by exact hvt.1) (by exact (hvt.2.2.2 _ (by assumption)).1)) (cv_of hg wM_X12_151 wN_X12_put wL_X12_X12_put wK_X12_put wI_X12 (by decide +kernel) ⟨Nat.le_of_ble_eq_true rfl, Nat.le_of_ble_eq_true rfl⟩) hK hP hD hS hA (va_recv hK hP (ci := 14) (q0 := 0) rfl rfl) rfl hl.1 rfl (Nat.le_of_ble_eq_true rfl) dX12_rows_609 ⟨Nat.le_of_ble_eq_true rfl, Nat.le_of_ble_eq_true rfl⟩ (fun u_394 H locs q_392 hP hD hS => ?_)
            obtain rfl := q_392
            have hP : va_P (dC, dI) vwCl (rW g ty (Y.1, Y.2.1, Y.2.2.1, Y.2.2.2.1, Y.2.2.2.2.1, (vp_updL Y.2.2.2.2.2.1 (Y.2.1 (pa a0.toNatClampNeg).toNatClampNeg + b0).toNatClampNeg ((pa c0.toNatClampNeg).toInt64)), Y.2.2.2.2.2.2.1, Y.2.2.2.2.2.2.2.1, Y.2.2.2.2.2.2.2.2.1, Y.2.2.2.2.2.2.2.2.2.1, Y.2.2.2.2.2.2.2.2.2.2) pa kp ks I tl ac wr tw) H := hP
            have hD : va_D A (rW g ty (Y.1, Y.2.1, Y.2.2.1, Y.2.2.2.1, Y.2.2.2.2.1, (vp_updL Y.2.2.2.2.2.1 (Y.2.1 (pa a0.toNatClampNeg).toNatClampNeg + b0).toNatClampNeg ((pa c0.toNatClampNeg).toInt64)), Y.2.2.2.2.2.2.1, Y.2.2.2.2.2.2.2.1, Y.2.2.2.2.2.2.2.2.1, Y.2.2.2.2.2.2.2.2.2.1, Y.2.2.2.2.2.2.2.2.2.2) pa kp ks I tl ac wr tw) := hD
            refine lv_lconst (v := 0) hx hb dX12_rows_612 (by decide) ?_
            refine cr_l (wo := fun u : rY × (Nat → Int32) × (Nat → Int32) × (Nat → Int32) × Int32 × Int32 => rW g ty u.1 u.2.1 u.2.2.1 ks I u.2.2.2.1 ac u.2.2.2.2.1 u.2.2.2.2.2) (((Y.1, Y.2.1, Y.2.2.1, Y.2.2.2.1, Y.2.2.2.2.1, (vp_updL Y.2.2.2.2.2.1 (Y.2.1 (pa a0.toNatClampNeg).toNatClampNeg + b0).toNatClampNeg ((pa c0.toNatClampNeg).toInt64)), Y.2.2.2.2.2.2.1, Y.2.2.2.2.2.2.2.1, Y.2.2.2.2.2.2.2.2.1, Y.2.2.2.2.2.2.2.2.2.1, Y.2.2.2.2.2.2.2.2.2.2), pa, kp, tl, wr, tw)) hx hb hr hlk hS hP hD ?_ dX12_rows_613
            exact ⟨0, (Y.1, Y.2.1, Y.2.2.1, Y.2.2.2.1, Y.2.2.2.2.1, (vp_updL Y.2.2.2.2.2.1 (Y.2.1 (pa a0.toNatClampNeg).toNatClampNeg + b0).toNatClampNeg ((pa c0.toNatClampNeg).toInt64)), Y.2.2.2.2.2.2.1, Y.2.2.2.2.2.2.2.1, Y.2.2.2.2.2.2.2.2.1, Y.2.2.2.2.2.2.2.2.2.1, Y.2.2.2.2.2.2.2.2.2.2), pa, kp, tl, wr, tw, rfl, rfl, (by subst pre6; exact ra_w (rw_shelf wf rel n1t n2t n3t kt g6 f_391 (pl_ll rel f_379 f_380) rfl) ⟨rfl, rfl, rfl, rfl⟩ hcnt htl rfl)⟩
set_option maxHeartbeats 800000 in
set_option maxRecDepth 100000 in
theorem c_X12_boxes_12 (l : Launch) (dC : Nat → ClassId) (dI : Nat → Nat → Nat) (g : Nat → Nat) (ty : Nat → ClassId) (sz : Nat) (Y : rY) (pa : Nat → Int32) (kp : Nat → Int32) (ks : Int32) (I : rI) (tl : Nat → Int32) (ac : Int64) (wr : Int32) (tw : Int32) (ρ : Nat → Nat) (pl : Nat → Option Nat) (P : cQ) (md : Int32) (Z : cZ) (rz9 : Int64) (u9 : (Nat → Option Nat) × Int32) (a0 : Int32) (b0 : Int32) (c0 : Int32) (pre0 : rR Y.2.2.2.2.2.2.2.2.2.1 Y pa ρ pl P) (pre1 : cWF pl P) (pre2 : ks = 0) (pre3 : rCnt Y md) (pre4 : tl 5 = md) (pre5 : 0 ≤ md ∧ md ≤ 6000) (pre6 : tw = 0) (pre7 : q_X11_takeOut 9 a0 b0 c0 pl ac (-1) md Z P rz9 u9) : Met l yX12_boxes (Cond.code yX12_boxes cX12_boxes 7 (some .long) :: gT) ({ frames := 3, cells := 0, slots := 0, locals := 82 }) (cP (dC, dI) (rTy ty) (rW g ty Y pa kp ks I tl ac wr tw) sz [.ref (g 8), .int 12, .int a0, .int b0, .int c0]) (va_Ql (fun (rz : Int64) (u : rY × (Nat → Int32) × (Nat → Int32) × (Nat → Int32) × Int32 × Int32) => ∃ (r' : Int64) (Y' : rY) (pa' kp' tl' : Nat → Int32) (wr' tw' : Int32), r' = rz ∧ (Y', pa', kp', tl', wr', tw') = u ∧ rAns u9.2 rz9 u9.1 P md tl Y r' Y' pa' tl' wr' tw') (cB (dC, dI) (fun u : rY × (Nat → Int32) × (Nat → Int32) × (Nat → Int32) × Int32 × Int32 => rW g ty u.1 u.2.1 u.2.2.1 ks I u.2.2.2.1 ac u.2.2.2.2.1 u.2.2.2.2.2) (va_A (rW g ty Y pa kp ks I tl ac wr tw) sz)) (va_A (rW g ty Y pa kp ks I tl ac wr tw) sz)) 0 0 (va_A (rW g ty Y pa kp ks I tl ac wr tw) sz) := by
  refine cc_of (Qa := fun A => va_Ql (fun (rz : Int64) (u : rY × (Nat → Int32) × (Nat → Int32) × (Nat → Int32) × Int32 × Int32) => ∃ (r' : Int64) (Y' : rY) (pa' kp' tl' : Nat → Int32) (wr' tw' : Int32), r' = rz ∧ (Y', pa', kp', tl', wr', tw') = u ∧ rAns u9.2 rz9 u9.1 P md tl Y r' Y' pa' tl' wr' tw') (cB (dC, dI) (fun u : rY × (Nat → Int32) × (Nat → Int32) × (Nat → Int32) × Int32 × Int32 => rW g ty u.1 u.2.1 u.2.2.1 ks I u.2.2.2.1 ac u.2.2.2.2.1 u.2.2.2.2.2) A) A) (by decide) (Nat.le_of_ble_eq_true rfl) ?_
  intro p e s m below meth c A hx hb hr hml hown hg hlk hmn hP hK hD hT hS hA hsz ls hl
  have hown : s.vm.findClass RX12 = some m.cls := hown
  have rel := pre0
  have wf := pre1
  have hcnt := pre3
  have htl := pre4
  rcases pre7 with ⟨rfl, rfl, g2⟩ | ⟨rfl, rfl, g2, g3⟩ | ⟨t, rfl, rfl, g2, g3, g4, g5⟩ | ⟨rfl, rfl, g2, g3, g4⟩ | ⟨t, y, rfl, rfl, g2, g3, g4, g5, g6, g7⟩ | ⟨t, y, o, rfl, rfl, g2, g3, g4, g5, g6, g7, g8⟩
  · show _
    have hl : lv_has ls 7 [(0, .ref (g 8)), (1, .int 12), (2, .int a0), (3, .int b0), (4, .int c0)] := hl
    refine lv_iload_n hx hb dX12_boxes_0 rfl (lv_at hl 1 rfl) ?_
    refine lv_tableIn (off := 287) (tgt := 288) hx hb dX12_boxes_1 (by decide) (by decide) (by decide) (by decide) ?_
    refine lv_aload_n hx hb dX12_boxes_288 rfl (lv_at hl 0 rfl) ?_
    refine lv_iload hx hb dX12_boxes_289 (lv_at hl 4 rfl) ?_
    refine cV_i (C := RX12) (n := 1) (rest := []) hx hb hml hown hg hT (c_X12_place l dC dI g ty s.heap.size Y pa kp ks I tl ac wr tw c0 ) (cv_of hg wM_X12_83 wN_X12_place wL_X12_X12_place wK_X12_place wI_X12 (by decide +kernel) ⟨Nat.le_of_ble_eq_true rfl, Nat.le_of_ble_eq_true rfl⟩) hK hP hD hS hA (va_recv hK hP (ci := 14) (q0 := 0) rfl rfl) rfl hl.1 rfl (Nat.le_of_ble_eq_true rfl) dX12_boxes_291 ⟨Nat.le_of_ble_eq_true rfl, Nat.le_of_ble_eq_true rfl⟩ (fun r_2 u_3 H locs q_1 hP hD hS => ?_)
    rcases q_1 with ⟨rfl, rfl, f_4⟩ | ⟨rfl, rfl, f_5⟩
    · show _
      have hP : va_P (dC, dI) vwCl (rW g ty Y pa kp ks I tl ac 2 tw) H := hP
      have hD : va_D A (rW g ty Y pa kp ks I tl ac 2 tw) := hD
      refine lv_if_eq (tgt := 329) hx hb dX12_boxes_294 (by decide) (fun _ => ?_) (fun c9 => absurd (by decide) c9) 
      refine lv_aload_n hx hb dX12_boxes_329 rfl (lv_at hl 0 rfl) ?_
      refine cV_l (C := RX12) (n := 0) (rest := []) hx hb hml hown hg hT (c_X12_no l dC dI g ty H.size Y pa kp ks I tl ac 2 tw  ) (cv_of hg wM_X12_107 wN_X12_no wL_X12_X12_no wK_X12_no wI_X12 (by decide +kernel) ⟨Nat.le_of_ble_eq_true rfl, Nat.le_of_ble_eq_true rfl⟩) hK hP hD hS hA (va_recv hK hP (ci := 14) (q0 := 0) rfl rfl) rfl hl.1 rfl (Nat.le_of_ble_eq_true rfl) dX12_boxes_330 ⟨Nat.le_of_ble_eq_true rfl, Nat.le_of_ble_eq_true rfl⟩ (fun r_7 u_8 H locs q_6 hP hD hS => ?_)
      obtain ⟨rfl, rfl⟩ := q_6
      have hP : va_P (dC, dI) vwCl (rW g ty Y pa kp ks I tl ac 2 1) H := hP
      have hD : va_D A (rW g ty Y pa kp ks I tl ac 2 1) := hD
      refine cr_l (wo := fun u : rY × (Nat → Int32) × (Nat → Int32) × (Nat → Int32) × Int32 × Int32 => rW g ty u.1 u.2.1 u.2.2.1 ks I u.2.2.2.1 ac u.2.2.2.2.1 u.2.2.2.2.2) ((Y, pa, kp, tl, 2, 1)) hx hb hr hlk hS hP hD ?_ dX12_boxes_333
      exact ⟨0, Y, pa, kp, tl, 2, 1, rfl, rfl, (by exact ra_f (f := 2) rel hcnt htl (by decide))⟩
    · show _
      exact absurd f_5 (by assumption)
  · show _
    have hl : lv_has ls 7 [(0, .ref (g 8)), (1, .int 12), (2, .int a0), (3, .int b0), (4, .int c0)] := hl
    refine lv_iload_n hx hb dX12_boxes_0 rfl (lv_at hl 1 rfl) ?_
    refine lv_tableIn (off := 287) (tgt := 288) hx hb dX12_boxes_1 (by decide) (by decide) (by decide) (by decide) ?_
    refine lv_aload_n hx hb dX12_boxes_288 rfl (lv_at hl 0 rfl) ?_
    refine lv_iload hx hb dX12_boxes_289 (lv_at hl 4 rfl) ?_
    refine cV_i (C := RX12) (n := 1) (rest := []) hx hb hml hown hg hT (c_X12_place l dC dI g ty s.heap.size Y pa kp ks I tl ac wr tw c0 ) (cv_of hg wM_X12_83 wN_X12_place wL_X12_X12_place wK_X12_place wI_X12 (by decide +kernel) ⟨Nat.le_of_ble_eq_true rfl, Nat.le_of_ble_eq_true rfl⟩) hK hP hD hS hA (va_recv hK hP (ci := 14) (q0 := 0) rfl rfl) rfl hl.1 rfl (Nat.le_of_ble_eq_true rfl) dX12_boxes_291 ⟨Nat.le_of_ble_eq_true rfl, Nat.le_of_ble_eq_true rfl⟩ (fun r_10 u_11 H locs q_9 hP hD hS => ?_)
    rcases q_9 with ⟨rfl, rfl, f_12⟩ | ⟨rfl, rfl, f_13⟩
    · show _
      exact absurd (by assumption) f_12
    · show _
      have hP : va_P (dC, dI) vwCl (rW g ty Y pa kp ks I tl ac wr tw) H := hP
      have hD : va_D A (rW g ty Y pa kp ks I tl ac wr tw) := hD
      refine lv_if_eq (tgt := 329) hx hb dX12_boxes_294 (by decide) (fun c9 => absurd c9 (by decide)) (fun _ => ?_)
      refine lv_aload_n hx hb dX12_boxes_297 rfl (lv_at hl 0 rfl) ?_
      refine lv_iload_n hx hb dX12_boxes_298 rfl (lv_at hl 2 rfl) ?_
      refine lv_bipush (v := 9) hx hb dX12_boxes_299 (by decide) ?_
      refine cV_i (C := RX12) (n := 2) (rest := []) hx hb hml hown hg hT (c_X12_thing l dC dI g ty H.size Y pa kp ks I tl ac wr tw ρ pl P a0 9 (by exact rel) (by exact wf) (by exact i32_in (by decide) (by decide))) (cv_of hg wM_X12_131 wN_X12_thing wL_X12_X12_thing wK_X12_thing wI_X12 (by decide +kernel) ⟨Nat.le_of_ble_eq_true rfl, Nat.le_of_ble_eq_true rfl⟩) hK hP hD hS hA (va_recv hK hP (ci := 14) (q0 := 0) rfl rfl) rfl hl.1 rfl (Nat.le_of_ble_eq_true rfl) dX12_boxes_301 ⟨Nat.le_of_ble_eq_true rfl, Nat.le_of_ble_eq_true rfl⟩ (fun r_15 u_16 H locs q_14 hP hD hS => ?_)
      rcases q_14 with ⟨rfl, rfl, f_17⟩ | ⟨t_18, rfl, rfl, f_19, f_20, f_21⟩ | ⟨rfl, rfl, f_22, f_23⟩ | ⟨t_24, rfl, rfl, f_25, f_26, f_27⟩
      · show _
        have hP : va_P (dC, dI) vwCl (rW g ty Y pa kp ks I tl ac 2 tw) H := hP
        have hD : va_D A (rW g ty Y pa kp ks I tl ac 2 tw) := hD
        refine lv_if_eq (tgt := 329) hx hb dX12_boxes_304 (by decide) (fun _ => ?_) (fun c9 => absurd (by decide) c9) 
        refine lv_aload_n hx hb dX12_boxes_329 rfl (lv_at hl 0 rfl) ?_
        refine cV_l (C := RX12) (n := 0) (rest := []) hx hb hml hown hg hT (c_X12_no l dC dI g ty H.size Y pa kp ks I tl ac 2 tw  ) (cv_of hg wM_X12_107 wN_X12_no wL_X12_X12_no wK_X12_no wI_X12 (by decide +kernel) ⟨Nat.le_of_ble_eq_true rfl, Nat.le_of_ble_eq_true rfl⟩) hK hP hD hS hA (va_recv hK hP (ci := 14) (q0 := 0) rfl rfl) rfl hl.1 rfl (Nat.le_of_ble_eq_true rfl) dX12_boxes_330 ⟨Nat.le_of_ble_eq_true rfl, Nat.le_of_ble_eq_true rfl⟩ (fun r_29 u_30 H locs q_28 hP hD hS => ?_)
        obtain ⟨rfl, rfl⟩ := q_28
        have hP : va_P (dC, dI) vwCl (rW g ty Y pa kp ks I tl ac 2 1) H := hP
        have hD : va_D A (rW g ty Y pa kp ks I tl ac 2 1) := hD
        refine cr_l (wo := fun u : rY × (Nat → Int32) × (Nat → Int32) × (Nat → Int32) × Int32 × Int32 => rW g ty u.1 u.2.1 u.2.2.1 ks I u.2.2.2.1 ac u.2.2.2.2.1 u.2.2.2.2.2) ((Y, pa, kp, tl, 2, 1)) hx hb hr hlk hS hP hD ?_ dX12_boxes_333
        exact ⟨0, Y, pa, kp, tl, 2, 1, rfl, rfl, (by exact ra_f (f := 2) rel hcnt htl (by decide))⟩
      · show _
        exact absurd f_19 (by assumption)
      · show _
        exact absurd f_22 (by assumption)
      · show _
        exact absurd f_25 (by assumption)
  · show _
    obtain ⟨n1t, n2t, n3t⟩ := rk_some rel g3 g4
    have hnet := (i32_pos n1t).2.1
    have tht := wf.1 _ _ g4
    have hl : lv_has ls 7 [(0, .ref (g 8)), (1, .int 12), (2, .int a0), (3, .int b0), (4, .int c0)] := hl
    refine lv_iload_n hx hb dX12_boxes_0 rfl (lv_at hl 1 rfl) ?_
    refine lv_tableIn (off := 287) (tgt := 288) hx hb dX12_boxes_1 (by decide) (by decide) (by decide) (by decide) ?_
    refine lv_aload_n hx hb dX12_boxes_288 rfl (lv_at hl 0 rfl) ?_
    refine lv_iload hx hb dX12_boxes_289 (lv_at hl 4 rfl) ?_
    refine cV_i (C := RX12) (n := 1) (rest := []) hx hb hml hown hg hT (c_X12_place l dC dI g ty s.heap.size Y pa kp ks I tl ac wr tw c0 ) (cv_of hg wM_X12_83 wN_X12_place wL_X12_X12_place wK_X12_place wI_X12 (by decide +kernel) ⟨Nat.le_of_ble_eq_true rfl, Nat.le_of_ble_eq_true rfl⟩) hK hP hD hS hA (va_recv hK hP (ci := 14) (q0 := 0) rfl rfl) rfl hl.1 rfl (Nat.le_of_ble_eq_true rfl) dX12_boxes_291 ⟨Nat.le_of_ble_eq_true rfl, Nat.le_of_ble_eq_true rfl⟩ (fun r_32 u_33 H locs q_31 hP hD hS => ?_)
    rcases q_31 with ⟨rfl, rfl, f_34⟩ | ⟨rfl, rfl, f_35⟩
    · show _
      exact absurd (by assumption) f_34
    · show _
      have hP : va_P (dC, dI) vwCl (rW g ty Y pa kp ks I tl ac wr tw) H := hP
      have hD : va_D A (rW g ty Y pa kp ks I tl ac wr tw) := hD
      refine lv_if_eq (tgt := 329) hx hb dX12_boxes_294 (by decide) (fun c9 => absurd c9 (by decide)) (fun _ => ?_)
      refine lv_aload_n hx hb dX12_boxes_297 rfl (lv_at hl 0 rfl) ?_
      refine lv_iload_n hx hb dX12_boxes_298 rfl (lv_at hl 2 rfl) ?_
      refine lv_bipush (v := 9) hx hb dX12_boxes_299 (by decide) ?_
      refine cV_i (C := RX12) (n := 2) (rest := []) hx hb hml hown hg hT (c_X12_thing l dC dI g ty H.size Y pa kp ks I tl ac wr tw ρ pl P a0 9 (by exact rel) (by exact wf) (by exact i32_in (by decide) (by decide))) (cv_of hg wM_X12_131 wN_X12_thing wL_X12_X12_thing wK_X12_thing wI_X12 (by decide +kernel) ⟨Nat.le_of_ble_eq_true rfl, Nat.le_of_ble_eq_true rfl⟩) hK hP hD hS hA (va_recv hK hP (ci := 14) (q0 := 0) rfl rfl) rfl hl.1 rfl (Nat.le_of_ble_eq_true rfl) dX12_boxes_301 ⟨Nat.le_of_ble_eq_true rfl, Nat.le_of_ble_eq_true rfl⟩ (fun r_37 u_38 H locs q_36 hP hD hS => ?_)
      rcases q_36 with ⟨rfl, rfl, f_39⟩ | ⟨t_40, rfl, rfl, f_41, f_42, f_43⟩ | ⟨rfl, rfl, f_44, f_45⟩ | ⟨t_46, rfl, rfl, f_47, f_48, f_49⟩
      · show _
        exact absurd (by assumption) f_39
      · show _
        obtain rfl := Option.some.inj (g4.symm.trans f_42)
        have hP : va_P (dC, dI) vwCl (rW g ty Y pa kp ks I tl ac 3 tw) H := hP
        have hD : va_D A (rW g ty Y pa kp ks I tl ac 3 tw) := hD
        refine lv_if_eq (tgt := 329) hx hb dX12_boxes_304 (by decide) (fun _ => ?_) (fun c9 => absurd (by decide) c9) 
        refine lv_aload_n hx hb dX12_boxes_329 rfl (lv_at hl 0 rfl) ?_
        refine cV_l (C := RX12) (n := 0) (rest := []) hx hb hml hown hg hT (c_X12_no l dC dI g ty H.size Y pa kp ks I tl ac 3 tw  ) (cv_of hg wM_X12_107 wN_X12_no wL_X12_X12_no wK_X12_no wI_X12 (by decide +kernel) ⟨Nat.le_of_ble_eq_true rfl, Nat.le_of_ble_eq_true rfl⟩) hK hP hD hS hA (va_recv hK hP (ci := 14) (q0 := 0) rfl rfl) rfl hl.1 rfl (Nat.le_of_ble_eq_true rfl) dX12_boxes_330 ⟨Nat.le_of_ble_eq_true rfl, Nat.le_of_ble_eq_true rfl⟩ (fun r_51 u_52 H locs q_50 hP hD hS => ?_)
        obtain ⟨rfl, rfl⟩ := q_50
        have hP : va_P (dC, dI) vwCl (rW g ty Y pa kp ks I tl ac 3 1) H := hP
        have hD : va_D A (rW g ty Y pa kp ks I tl ac 3 1) := hD
        refine cr_l (wo := fun u : rY × (Nat → Int32) × (Nat → Int32) × (Nat → Int32) × Int32 × Int32 => rW g ty u.1 u.2.1 u.2.2.1 ks I u.2.2.2.1 ac u.2.2.2.2.1 u.2.2.2.2.2) ((Y, pa, kp, tl, 3, 1)) hx hb hr hlk hS hP hD ?_ dX12_boxes_333
        exact ⟨0, Y, pa, kp, tl, 3, 1, rfl, rfl, (by exact ra_f (f := 3) rel hcnt htl (by decide))⟩
      · show _
        exact absurd (g4.symm.trans f_45) (by simp)
      · show _
        obtain rfl := Option.some.inj (g4.symm.trans f_48); exact absurd (g5.symm.trans f_49) (by decide)
  · show _
    have hza0 := rk_none rel g3 g4
    have hl : lv_has ls 7 [(0, .ref (g 8)), (1, .int 12), (2, .int a0), (3, .int b0), (4, .int c0)] := hl
    refine lv_iload_n hx hb dX12_boxes_0 rfl (lv_at hl 1 rfl) ?_
    refine lv_tableIn (off := 287) (tgt := 288) hx hb dX12_boxes_1 (by decide) (by decide) (by decide) (by decide) ?_
    refine lv_aload_n hx hb dX12_boxes_288 rfl (lv_at hl 0 rfl) ?_
    refine lv_iload hx hb dX12_boxes_289 (lv_at hl 4 rfl) ?_
    refine cV_i (C := RX12) (n := 1) (rest := []) hx hb hml hown hg hT (c_X12_place l dC dI g ty s.heap.size Y pa kp ks I tl ac wr tw c0 ) (cv_of hg wM_X12_83 wN_X12_place wL_X12_X12_place wK_X12_place wI_X12 (by decide +kernel) ⟨Nat.le_of_ble_eq_true rfl, Nat.le_of_ble_eq_true rfl⟩) hK hP hD hS hA (va_recv hK hP (ci := 14) (q0 := 0) rfl rfl) rfl hl.1 rfl (Nat.le_of_ble_eq_true rfl) dX12_boxes_291 ⟨Nat.le_of_ble_eq_true rfl, Nat.le_of_ble_eq_true rfl⟩ (fun r_54 u_55 H locs q_53 hP hD hS => ?_)
    rcases q_53 with ⟨rfl, rfl, f_56⟩ | ⟨rfl, rfl, f_57⟩
    · show _
      exact absurd (by assumption) f_56
    · show _
      have hP : va_P (dC, dI) vwCl (rW g ty Y pa kp ks I tl ac wr tw) H := hP
      have hD : va_D A (rW g ty Y pa kp ks I tl ac wr tw) := hD
      refine lv_if_eq (tgt := 329) hx hb dX12_boxes_294 (by decide) (fun c9 => absurd c9 (by decide)) (fun _ => ?_)
      refine lv_aload_n hx hb dX12_boxes_297 rfl (lv_at hl 0 rfl) ?_
      refine lv_iload_n hx hb dX12_boxes_298 rfl (lv_at hl 2 rfl) ?_
      refine lv_bipush (v := 9) hx hb dX12_boxes_299 (by decide) ?_
      refine cV_i (C := RX12) (n := 2) (rest := []) hx hb hml hown hg hT (c_X12_thing l dC dI g ty H.size Y pa kp ks I tl ac wr tw ρ pl P a0 9 (by exact rel) (by exact wf) (by exact i32_in (by decide) (by decide))) (cv_of hg wM_X12_131 wN_X12_thing wL_X12_X12_thing wK_X12_thing wI_X12 (by decide +kernel) ⟨Nat.le_of_ble_eq_true rfl, Nat.le_of_ble_eq_true rfl⟩) hK hP hD hS hA (va_recv hK hP (ci := 14) (q0 := 0) rfl rfl) rfl hl.1 rfl (Nat.le_of_ble_eq_true rfl) dX12_boxes_301 ⟨Nat.le_of_ble_eq_true rfl, Nat.le_of_ble_eq_true rfl⟩ (fun r_59 u_60 H locs q_58 hP hD hS => ?_)
      rcases q_58 with ⟨rfl, rfl, f_61⟩ | ⟨t_62, rfl, rfl, f_63, f_64, f_65⟩ | ⟨rfl, rfl, f_66, f_67⟩ | ⟨t_68, rfl, rfl, f_69, f_70, f_71⟩
      · show _
        exact absurd (by assumption) f_61
      · show _
        exact absurd (g4.symm.trans f_64) (by simp)
      · show _
        have hP : va_P (dC, dI) vwCl (rW g ty Y pa kp ks I tl ac wr tw) H := hP
        have hD : va_D A (rW g ty Y pa kp ks I tl ac wr tw) := hD
        refine lv_if_eq (tgt := 329) hx hb dX12_boxes_304 (by decide) (fun c9 => absurd c9 (by decide)) (fun _ => ?_)
        refine lv_aload_n hx hb dX12_boxes_307 rfl (lv_at hl 0 rfl) ?_
        refine lv_iload_n hx hb dX12_boxes_308 rfl (lv_at hl 2 rfl) ?_
        refine cV_i (C := RX12) (n := 1) (rest := []) hx hb hml hown hg hT (c_X12_need l dC dI g ty H.size Y pa kp ks I tl ac wr tw a0 (by assumption)) (cv_of hg wM_X12_134 wN_X12_need wL_X12_X12_need wK_X12_need wI_X12 (by decide +kernel) ⟨Nat.le_of_ble_eq_true rfl, Nat.le_of_ble_eq_true rfl⟩) hK hP hD hS hA (va_recv hK hP (ci := 14) (q0 := 0) rfl rfl) rfl hl.1 rfl (Nat.le_of_ble_eq_true rfl) dX12_boxes_309 ⟨Nat.le_of_ble_eq_true rfl, Nat.le_of_ble_eq_true rfl⟩ (fun r_73 u_74 H locs q_72 hP hD hS => ?_)
        rcases q_72 with ⟨rfl, rfl, f_75⟩ | ⟨rfl, rfl, f_76⟩
        · show _
          have hP : va_P (dC, dI) vwCl (rW g ty Y pa kp ks I tl ac 1 tw) H := hP
          have hD : va_D A (rW g ty Y pa kp ks I tl ac 1 tw) := hD
          refine lv_if_eq (tgt := 329) hx hb dX12_boxes_312 (by decide) (fun _ => ?_) (fun c9 => absurd (by decide) c9) 
          refine lv_aload_n hx hb dX12_boxes_329 rfl (lv_at hl 0 rfl) ?_
          refine cV_l (C := RX12) (n := 0) (rest := []) hx hb hml hown hg hT (c_X12_no l dC dI g ty H.size Y pa kp ks I tl ac 1 tw  ) (cv_of hg wM_X12_107 wN_X12_no wL_X12_X12_no wK_X12_no wI_X12 (by decide +kernel) ⟨Nat.le_of_ble_eq_true rfl, Nat.le_of_ble_eq_true rfl⟩) hK hP hD hS hA (va_recv hK hP (ci := 14) (q0 := 0) rfl rfl) rfl hl.1 rfl (Nat.le_of_ble_eq_true rfl) dX12_boxes_330 ⟨Nat.le_of_ble_eq_true rfl, Nat.le_of_ble_eq_true rfl⟩ (fun r_78 u_79 H locs q_77 hP hD hS => ?_)
          obtain ⟨rfl, rfl⟩ := q_77
          have hP : va_P (dC, dI) vwCl (rW g ty Y pa kp ks I tl ac 1 1) H := hP
          have hD : va_D A (rW g ty Y pa kp ks I tl ac 1 1) := hD
          refine cr_l (wo := fun u : rY × (Nat → Int32) × (Nat → Int32) × (Nat → Int32) × Int32 × Int32 => rW g ty u.1 u.2.1 u.2.2.1 ks I u.2.2.2.1 ac u.2.2.2.2.1 u.2.2.2.2.2) ((Y, pa, kp, tl, 1, 1)) hx hb hr hlk hS hP hD ?_ dX12_boxes_333
          exact ⟨0, Y, pa, kp, tl, 1, 1, rfl, rfl, (by exact ra_f (f := 1) rel hcnt htl (by decide))⟩
        · show _
          exact absurd (by assumption) f_76
      · show _
        exact absurd (g4.symm.trans f_70) (by simp)
  · show _
    obtain ⟨n1t, n2t, n3t⟩ := rk_some rel g3 g4
    have hnet := (i32_pos n1t).2.1
    have tht := wf.1 _ _ g4
    have kt := cIs_1 (ki_9 wf tht.1 tht.2 g5)
    have hvt := rv_shelf rel n1t n2t n3t kt g6
    have hl : lv_has ls 7 [(0, .ref (g 8)), (1, .int 12), (2, .int a0), (3, .int b0), (4, .int c0)] := hl
    refine lv_iload_n hx hb dX12_boxes_0 rfl (lv_at hl 1 rfl) ?_
    refine lv_tableIn (off := 287) (tgt := 288) hx hb dX12_boxes_1 (by decide) (by decide) (by decide) (by decide) ?_
    refine lv_aload_n hx hb dX12_boxes_288 rfl (lv_at hl 0 rfl) ?_
    refine lv_iload hx hb dX12_boxes_289 (lv_at hl 4 rfl) ?_
    refine cV_i (C := RX12) (n := 1) (rest := []) hx hb hml hown hg hT (c_X12_place l dC dI g ty s.heap.size Y pa kp ks I tl ac wr tw c0 ) (cv_of hg wM_X12_83 wN_X12_place wL_X12_X12_place wK_X12_place wI_X12 (by decide +kernel) ⟨Nat.le_of_ble_eq_true rfl, Nat.le_of_ble_eq_true rfl⟩) hK hP hD hS hA (va_recv hK hP (ci := 14) (q0 := 0) rfl rfl) rfl hl.1 rfl (Nat.le_of_ble_eq_true rfl) dX12_boxes_291 ⟨Nat.le_of_ble_eq_true rfl, Nat.le_of_ble_eq_true rfl⟩ (fun r_81 u_82 H locs q_80 hP hD hS => ?_)
    rcases q_80 with ⟨rfl, rfl, f_83⟩ | ⟨rfl, rfl, f_84⟩
    · show _
      exact absurd (by assumption) f_83
    · show _
      have hP : va_P (dC, dI) vwCl (rW g ty Y pa kp ks I tl ac wr tw) H := hP
      have hD : va_D A (rW g ty Y pa kp ks I tl ac wr tw) := hD
      refine lv_if_eq (tgt := 329) hx hb dX12_boxes_294 (by decide) (fun c9 => absurd c9 (by decide)) (fun _ => ?_)
      refine lv_aload_n hx hb dX12_boxes_297 rfl (lv_at hl 0 rfl) ?_
      refine lv_iload_n hx hb dX12_boxes_298 rfl (lv_at hl 2 rfl) ?_
      refine lv_bipush (v := 9) hx hb dX12_boxes_299 (by decide) ?_
      refine cV_i (C := RX12) (n := 2) (rest := []) hx hb hml hown hg hT (c_X12_thing l dC dI g ty H.size Y pa kp ks I tl ac wr tw ρ pl P a0 9 (by exact rel) (by exact wf) (by exact i32_in (by decide) (by decide))) (cv_of hg wM_X12_131 wN_X12_thing wL_X12_X12_thing wK_X12_thing wI_X12 (by decide +kernel) ⟨Nat.le_of_ble_eq_true rfl, Nat.le_of_ble_eq_true rfl⟩) hK hP hD hS hA (va_recv hK hP (ci := 14) (q0 := 0) rfl rfl) rfl hl.1 rfl (Nat.le_of_ble_eq_true rfl) dX12_boxes_301 ⟨Nat.le_of_ble_eq_true rfl, Nat.le_of_ble_eq_true rfl⟩ (fun r_86 u_87 H locs q_85 hP hD hS => ?_)
      rcases q_85 with ⟨rfl, rfl, f_88⟩ | ⟨t_89, rfl, rfl, f_90, f_91, f_92⟩ | ⟨rfl, rfl, f_93, f_94⟩ | ⟨t_95, rfl, rfl, f_96, f_97, f_98⟩
      · show _
        exact absurd (by assumption) f_88
      · show _
        obtain rfl := Option.some.inj (g4.symm.trans f_91); exact absurd (g5.symm.trans f_92) (by decide)
      · show _
        exact absurd (g4.symm.trans f_94) (by simp)
      · show _
        obtain rfl := Option.some.inj (g4.symm.trans f_97)
        have hP : va_P (dC, dI) vwCl (rW g ty Y pa kp ks I tl ac wr tw) H := hP
        have hD : va_D A (rW g ty Y pa kp ks I tl ac wr tw) := hD
        refine lv_if_eq (tgt := 329) hx hb dX12_boxes_304 (by decide) (fun c9 => absurd c9 (by decide)) (fun _ => ?_)
        refine lv_aload_n hx hb dX12_boxes_307 rfl (lv_at hl 0 rfl) ?_
        refine lv_iload_n hx hb dX12_boxes_308 rfl (lv_at hl 2 rfl) ?_
        refine cV_i (C := RX12) (n := 1) (rest := []) hx hb hml hown hg hT (c_X12_need l dC dI g ty H.size Y pa kp ks I tl ac wr tw a0 (by assumption)) (cv_of hg wM_X12_134 wN_X12_need wL_X12_X12_need wK_X12_need wI_X12 (by decide +kernel) ⟨Nat.le_of_ble_eq_true rfl, Nat.le_of_ble_eq_true rfl⟩) hK hP hD hS hA (va_recv hK hP (ci := 14) (q0 := 0) rfl rfl) rfl hl.1 rfl (Nat.le_of_ble_eq_true rfl) dX12_boxes_309 ⟨Nat.le_of_ble_eq_true rfl, Nat.le_of_ble_eq_true rfl⟩ (fun r_100 u_101 H locs q_99 hP hD hS => ?_)
        rcases q_99 with ⟨rfl, rfl, f_102⟩ | ⟨rfl, rfl, f_103⟩
        · show _
          exact absurd f_102 (by assumption)
        · show _
          have hP : va_P (dC, dI) vwCl (rW g ty Y pa kp ks I tl ac wr tw) H := hP
          have hD : va_D A (rW g ty Y pa kp ks I tl ac wr tw) := hD
          refine lv_if_eq (tgt := 329) hx hb dX12_boxes_312 (by decide) (fun c9 => absurd c9 (by decide)) (fun _ => ?_)
          refine lv_aload_n hx hb dX12_boxes_315 rfl (lv_at hl 0 rfl) ?_
          refine lv_aload_n hx hb dX12_boxes_316 rfl (lv_at hl 0 rfl) ?_
          refine va_get (D := (dC, dI)) (ci := 14) (v := .ref (g 9)) (C := RX12) (T := TX12) (N := 21) hx hb hg inG12 hown hK hP 0 rfl rfl 8 (by decide) (hg _ wF_X12_34) (fun _ h9 => h9) rfl dX12_boxes_317 ?_
          refine lv_iload_n hx hb dX12_boxes_320 rfl (lv_at hl 2 rfl) ?_
          refine va_iald hx hb hK hP 7 0 rfl rfl (by assumption) dX12_boxes_321 ?_
          refine lv_iload_n hx hb dX12_boxes_322 rfl (lv_at hl 3 rfl) ?_
          refine cV_i (C := RX12) (n := 2) (rest := []) hx hb hml hown hg hT (c_X12_indexN l dC dI g ty H.size Y pa kp ks I tl ac wr tw (P.2.2.2.2.2.1 y) (pa a0.toNatClampNeg) b0 (by exact hvt.1) (by exact hvt.2.1) (by exact hvt.2.2.1)) (cv_of hg wM_X12_137 wN_X12_index wL_X12_X12_index wK_X12_index wI_X12 (by decide +kernel) ⟨Nat.le_of_ble_eq_true rfl, Nat.le_of_ble_eq_true rfl⟩) hK hP hD hS hA (va_recv hK hP (ci := 14) (q0 := 0) rfl rfl) rfl hl.1 rfl (Nat.le_of_ble_eq_true rfl) dX12_boxes_323 ⟨Nat.le_of_ble_eq_true rfl, Nat.le_of_ble_eq_true rfl⟩ (fun r_105 u_106 H locs q_104 hP hD hS => ?_)
          rcases q_104 with ⟨rfl, rfl, f_107⟩ | ⟨rfl, rfl, f_108⟩
          · show _
            have hP : va_P (dC, dI) vwCl (rW g ty Y pa kp ks I tl ac 2 tw) H := hP
            have hD : va_D A (rW g ty Y pa kp ks I tl ac 2 tw) := hD
            refine lv_if_ne (tgt := 334) hx hb dX12_boxes_326 (by decide) (fun c9 => absurd (by decide) c9) (fun _ => ?_)
            refine lv_aload_n hx hb dX12_boxes_329 rfl (lv_at hl 0 rfl) ?_
            refine cV_l (C := RX12) (n := 0) (rest := []) hx hb hml hown hg hT (c_X12_no l dC dI g ty H.size Y pa kp ks I tl ac 2 tw  ) (cv_of hg wM_X12_107 wN_X12_no wL_X12_X12_no wK_X12_no wI_X12 (by decide +kernel) ⟨Nat.le_of_ble_eq_true rfl, Nat.le_of_ble_eq_true rfl⟩) hK hP hD hS hA (va_recv hK hP (ci := 14) (q0 := 0) rfl rfl) rfl hl.1 rfl (Nat.le_of_ble_eq_true rfl) dX12_boxes_330 ⟨Nat.le_of_ble_eq_true rfl, Nat.le_of_ble_eq_true rfl⟩ (fun r_110 u_111 H locs q_109 hP hD hS => ?_)
            obtain ⟨rfl, rfl⟩ := q_109
            have hP : va_P (dC, dI) vwCl (rW g ty Y pa kp ks I tl ac 2 1) H := hP
            have hD : va_D A (rW g ty Y pa kp ks I tl ac 2 1) := hD
            refine cr_l (wo := fun u : rY × (Nat → Int32) × (Nat → Int32) × (Nat → Int32) × Int32 × Int32 => rW g ty u.1 u.2.1 u.2.2.1 ks I u.2.2.2.1 ac u.2.2.2.2.1 u.2.2.2.2.2) ((Y, pa, kp, tl, 2, 1)) hx hb hr hlk hS hP hD ?_ dX12_boxes_333
            exact ⟨0, Y, pa, kp, tl, 2, 1, rfl, rfl, (by exact ra_f (f := 2) rel hcnt htl (by decide))⟩
          · show _
            exact absurd f_108 (by assumption)
  · show _
    obtain ⟨n1t, n2t, n3t⟩ := rk_some rel g3 g4
    have hnet := (i32_pos n1t).2.1
    have tht := wf.1 _ _ g4
    have kt := cIs_1 (ki_9 wf tht.1 tht.2 g5)
    have hvt := rv_shelf rel n1t n2t n3t kt g6
    have hl : lv_has ls 7 [(0, .ref (g 8)), (1, .int 12), (2, .int a0), (3, .int b0), (4, .int c0)] := hl
    refine lv_iload_n hx hb dX12_boxes_0 rfl (lv_at hl 1 rfl) ?_
    refine lv_tableIn (off := 287) (tgt := 288) hx hb dX12_boxes_1 (by decide) (by decide) (by decide) (by decide) ?_
    refine lv_aload_n hx hb dX12_boxes_288 rfl (lv_at hl 0 rfl) ?_
    refine lv_iload hx hb dX12_boxes_289 (lv_at hl 4 rfl) ?_
    refine cV_i (C := RX12) (n := 1) (rest := []) hx hb hml hown hg hT (c_X12_place l dC dI g ty s.heap.size Y pa kp ks I tl ac wr tw c0 ) (cv_of hg wM_X12_83 wN_X12_place wL_X12_X12_place wK_X12_place wI_X12 (by decide +kernel) ⟨Nat.le_of_ble_eq_true rfl, Nat.le_of_ble_eq_true rfl⟩) hK hP hD hS hA (va_recv hK hP (ci := 14) (q0 := 0) rfl rfl) rfl hl.1 rfl (Nat.le_of_ble_eq_true rfl) dX12_boxes_291 ⟨Nat.le_of_ble_eq_true rfl, Nat.le_of_ble_eq_true rfl⟩ (fun r_113 u_114 H locs q_112 hP hD hS => ?_)
    rcases q_112 with ⟨rfl, rfl, f_115⟩ | ⟨rfl, rfl, f_116⟩
    · show _
      exact absurd (by assumption) f_115
    · show _
      have hP : va_P (dC, dI) vwCl (rW g ty Y pa kp ks I tl ac wr tw) H := hP
      have hD : va_D A (rW g ty Y pa kp ks I tl ac wr tw) := hD
      refine lv_if_eq (tgt := 329) hx hb dX12_boxes_294 (by decide) (fun c9 => absurd c9 (by decide)) (fun _ => ?_)
      refine lv_aload_n hx hb dX12_boxes_297 rfl (lv_at hl 0 rfl) ?_
      refine lv_iload_n hx hb dX12_boxes_298 rfl (lv_at hl 2 rfl) ?_
      refine lv_bipush (v := 9) hx hb dX12_boxes_299 (by decide) ?_
      refine cV_i (C := RX12) (n := 2) (rest := []) hx hb hml hown hg hT (c_X12_thing l dC dI g ty H.size Y pa kp ks I tl ac wr tw ρ pl P a0 9 (by exact rel) (by exact wf) (by exact i32_in (by decide) (by decide))) (cv_of hg wM_X12_131 wN_X12_thing wL_X12_X12_thing wK_X12_thing wI_X12 (by decide +kernel) ⟨Nat.le_of_ble_eq_true rfl, Nat.le_of_ble_eq_true rfl⟩) hK hP hD hS hA (va_recv hK hP (ci := 14) (q0 := 0) rfl rfl) rfl hl.1 rfl (Nat.le_of_ble_eq_true rfl) dX12_boxes_301 ⟨Nat.le_of_ble_eq_true rfl, Nat.le_of_ble_eq_true rfl⟩ (fun r_118 u_119 H locs q_117 hP hD hS => ?_)
      rcases q_117 with ⟨rfl, rfl, f_120⟩ | ⟨t_121, rfl, rfl, f_122, f_123, f_124⟩ | ⟨rfl, rfl, f_125, f_126⟩ | ⟨t_127, rfl, rfl, f_128, f_129, f_130⟩
      · show _
        exact absurd (by assumption) f_120
      · show _
        obtain rfl := Option.some.inj (g4.symm.trans f_123); exact absurd (g5.symm.trans f_124) (by decide)
      · show _
        exact absurd (g4.symm.trans f_126) (by simp)
      · show _
        obtain rfl := Option.some.inj (g4.symm.trans f_129)
        have hP : va_P (dC, dI) vwCl (rW g ty Y pa kp ks I tl ac wr tw) H := hP
        have hD : va_D A (rW g ty Y pa kp ks I tl ac wr tw) := hD
        refine lv_if_eq (tgt := 329) hx hb dX12_boxes_304 (by decide) (fun c9 => absurd c9 (by decide)) (fun _ => ?_)
        refine lv_aload_n hx hb dX12_boxes_307 rfl (lv_at hl 0 rfl) ?_
        refine lv_iload_n hx hb dX12_boxes_308 rfl (lv_at hl 2 rfl) ?_
        refine cV_i (C := RX12) (n := 1) (rest := []) hx hb hml hown hg hT (c_X12_need l dC dI g ty H.size Y pa kp ks I tl ac wr tw a0 (by assumption)) (cv_of hg wM_X12_134 wN_X12_need wL_X12_X12_need wK_X12_need wI_X12 (by decide +kernel) ⟨Nat.le_of_ble_eq_true rfl, Nat.le_of_ble_eq_true rfl⟩) hK hP hD hS hA (va_recv hK hP (ci := 14) (q0 := 0) rfl rfl) rfl hl.1 rfl (Nat.le_of_ble_eq_true rfl) dX12_boxes_309 ⟨Nat.le_of_ble_eq_true rfl, Nat.le_of_ble_eq_true rfl⟩ (fun r_132 u_133 H locs q_131 hP hD hS => ?_)
        rcases q_131 with ⟨rfl, rfl, f_134⟩ | ⟨rfl, rfl, f_135⟩
        · show _
          exact absurd f_134 (by assumption)
        · show _
          have hP : va_P (dC, dI) vwCl (rW g ty Y pa kp ks I tl ac wr tw) H := hP
          have hD : va_D A (rW g ty Y pa kp ks I tl ac wr tw) := hD
          refine lv_if_eq (tgt := 329) hx hb dX12_boxes_312 (by decide) (fun c9 => absurd c9 (by decide)) (fun _ => ?_)
          refine lv_aload_n hx hb dX12_boxes_315 rfl (lv_at hl 0 rfl) ?_
          refine lv_aload_n hx hb dX12_boxes_316 rfl (lv_at hl 0 rfl) ?_
          refine va_get (D := (dC, dI)) (ci := 14) (v := .ref (g 9)) (C := RX12) (T := TX12) (N := 21) hx hb hg inG12 hown hK hP 0 rfl rfl 8 (by decide) (hg _ wF_X12_34) (fun _ h9 => h9) rfl dX12_boxes_317 ?_
          refine lv_iload_n hx hb dX12_boxes_320 rfl (lv_at hl 2 rfl) ?_
          refine va_iald hx hb hK hP 7 0 rfl rfl (by assumption) dX12_boxes_321 ?_
          refine lv_iload_n hx hb dX12_boxes_322 rfl (lv_at hl 3 rfl) ?_
          refine cV_i (C := RX12) (n := 2) (rest := []) hx hb hml hown hg hT (c_X12_indexN l dC dI g ty H.size Y pa kp ks I tl ac wr tw (P.2.2.2.2.2.1 y) (pa a0.toNatClampNeg) b0 (by exact hvt.1) (by exact hvt.2.1) (by exact hvt.2.2.1)) (cv_of hg wM_X12_137 wN_X12_index wL_X12_X12_index wK_X12_index wI_X12 (by decide +kernel) ⟨Nat.le_of_ble_eq_true rfl, Nat.le_of_ble_eq_true rfl⟩) hK hP hD hS hA (va_recv hK hP (ci := 14) (q0 := 0) rfl rfl) rfl hl.1 rfl (Nat.le_of_ble_eq_true rfl) dX12_boxes_323 ⟨Nat.le_of_ble_eq_true rfl, Nat.le_of_ble_eq_true rfl⟩ (fun r_137 u_138 H locs q_136 hP hD hS => ?_)
          rcases q_136 with ⟨rfl, rfl, f_139⟩ | ⟨rfl, rfl, f_140⟩
          · show _
            exact absurd (by assumption) f_139
          · show _
            have hP : va_P (dC, dI) vwCl (rW g ty Y pa kp ks I tl ac wr tw) H := hP
            have hD : va_D A (rW g ty Y pa kp ks I tl ac wr tw) := hD
            refine lv_if_ne (tgt := 334) hx hb dX12_boxes_326 (by decide) (fun _ => ?_) (fun c9 => absurd c9 (by decide)) 
            refine lv_aload_n hx hb dX12_boxes_334 rfl (lv_at hl 0 rfl) ?_
            refine va_get (D := (dC, dI)) (ci := 14) (v := .ref (g 9)) (C := RX12) (T := TX12) (N := 21) hx hb hg inG12 hown hK hP 0 rfl rfl 8 (by decide) (hg _ wF_X12_34) (fun _ h9 => h9) rfl dX12_boxes_335 ?_
            refine lv_iload hx hb dX12_boxes_338 (lv_at hl 4 rfl) ?_
            refine lv_aload_n hx hb dX12_boxes_340 rfl (lv_at hl 0 rfl) ?_
            refine lv_aload_n hx hb dX12_boxes_341 rfl (lv_at hl 0 rfl) ?_
            refine va_get (D := (dC, dI)) (ci := 14) (v := .ref (g 9)) (C := RX12) (T := TX12) (N := 21) hx hb hg inG12 hown hK hP 0 rfl rfl 8 (by decide) (hg _ wF_X12_34) (fun _ h9 => h9) rfl dX12_boxes_342 ?_
            refine lv_iload_n hx hb dX12_boxes_345 rfl (lv_at hl 2 rfl) ?_
            refine va_iald hx hb hK hP 7 0 rfl rfl (by assumption) dX12_boxes_346 ?_
            refine lv_iload_n hx hb dX12_boxes_347 rfl (lv_at hl 3 rfl) ?_
            refine cV_l (C := RX12) (n := 2) (rest := [.int c0, .ref (g 9)]) hx hb hml hown hg hT (c_X12_cell l dC dI g ty H.size Y pa kp ks I tl ac wr tw (pa a0.toNatClampNeg) b0 (by exact hvt.1) (by exact (hvt.2.2.2 _ (by assumption)).1)) (cv_of hg wM_X12_140 wN_X12_cell wL_X12_X12_cell wK_X12_cell wI_X12 (by decide +kernel) ⟨Nat.le_of_ble_eq_true rfl, Nat.le_of_ble_eq_true rfl⟩) hK hP hD hS hA (va_recv hK hP (ci := 14) (q0 := 0) rfl rfl) rfl hl.1 rfl (Nat.le_of_ble_eq_true rfl) dX12_boxes_348 ⟨Nat.le_of_ble_eq_true rfl, Nat.le_of_ble_eq_true rfl⟩ (fun r_142 u_143 H locs q_141 hP hD hS => ?_)
            obtain rfl := q_141
            have hP : va_P (dC, dI) vwCl (rW g ty Y pa kp ks I tl ac wr tw) H := hP
            have hD : va_D A (rW g ty Y pa kp ks I tl ac wr tw) := hD
            refine lv_l2i (v := ((Y.2.2.2.2.2.1 (Y.2.1 (pa a0.toNatClampNeg).toNatClampNeg + b0).toNatClampNeg).toInt32)) hx hb dX12_boxes_351 rfl ?_
            refine va_iast hx hb hK hP hD hS 7 0 rfl rfl (by assumption) dX12_boxes_352 (fun H locs hP hD hS => ?_)
            have hP : va_P (dC, dI) vwCl (rW g ty Y (upd pa c0.toNatClampNeg ((Y.2.2.2.2.2.1 (Y.2.1 (pa a0.toNatClampNeg).toNatClampNeg + b0).toNatClampNeg).toInt32)) kp ks I tl ac wr tw) H := hP
            have hD : va_D A (rW g ty Y (upd pa c0.toNatClampNeg ((Y.2.2.2.2.2.1 (Y.2.1 (pa a0.toNatClampNeg).toNatClampNeg + b0).toNatClampNeg).toInt32)) kp ks I tl ac wr tw) := hD
            refine lv_lconst (v := 0) hx hb dX12_boxes_353 (by decide) ?_
            refine cr_l (wo := fun u : rY × (Nat → Int32) × (Nat → Int32) × (Nat → Int32) × Int32 × Int32 => rW g ty u.1 u.2.1 u.2.2.1 ks I u.2.2.2.1 ac u.2.2.2.2.1 u.2.2.2.2.2) ((Y, (upd pa c0.toNatClampNeg ((Y.2.2.2.2.2.1 (Y.2.1 (pa a0.toNatClampNeg).toNatClampNeg + b0).toNatClampNeg).toInt32)), kp, tl, wr, tw)) hx hb hr hlk hS hP hD ?_ dX12_boxes_354
            exact ⟨0, Y, (upd pa c0.toNatClampNeg ((Y.2.2.2.2.2.1 (Y.2.1 (pa a0.toNatClampNeg).toNatClampNeg + b0).toNatClampNeg).toInt32)), kp, tl, wr, tw, rfl, rfl, (by subst pre6; exact ra_w (rw_pl rel (by assumption) (ll_lk (hvt.2.2.2 _ (by assumption)).2 (by assumption))) ⟨rfl, rfl, rfl, rfl⟩ hcnt htl rfl)⟩
set_option maxHeartbeats 800000 in
set_option maxRecDepth 100000 in
theorem c_X12_boxes_15 (l : Launch) (dC : Nat → ClassId) (dI : Nat → Nat → Nat) (g : Nat → Nat) (ty : Nat → ClassId) (sz : Nat) (Y : rY) (pa : Nat → Int32) (kp : Nat → Int32) (ks : Int32) (I : rI) (tl : Nat → Int32) (ac : Int64) (wr : Int32) (tw : Int32) (ρ : Nat → Nat) (pl : Nat → Option Nat) (P : cQ) (md : Int32) (Z : cZ) (rz9 : Int64) (u9 : Int32) (a0 : Int32) (b0 : Int32) (c0 : Int32) (pre0 : rR Y.2.2.2.2.2.2.2.2.2.1 Y pa ρ pl P) (pre1 : cWF pl P) (pre2 : ks = 0) (pre3 : rCnt Y md) (pre4 : tl 5 = md) (pre5 : 0 ≤ md ∧ md ≤ 6000) (pre6 : tw = 0) (pre7 : q_X11_boxValue a0 pl ac (-1) md Z P rz9 u9) : Met l yX12_boxes (Cond.code yX12_boxes cX12_boxes 7 (some .long) :: gT) ({ frames := 3, cells := 0, slots := 0, locals := 82 }) (cP (dC, dI) (rTy ty) (rW g ty Y pa kp ks I tl ac wr tw) sz [.ref (g 8), .int 15, .int a0, .int b0, .int c0]) (va_Ql (fun (rz : Int64) (u : rY × (Nat → Int32) × (Nat → Int32) × (Nat → Int32) × Int32 × Int32) => ∃ (r' : Int64) (Y' : rY) (pa' kp' tl' : Nat → Int32) (wr' tw' : Int32), r' = rz ∧ (Y', pa', kp', tl', wr', tw') = u ∧ rAns u9 rz9 pl P md tl Y r' Y' pa' tl' wr' tw') (cB (dC, dI) (fun u : rY × (Nat → Int32) × (Nat → Int32) × (Nat → Int32) × Int32 × Int32 => rW g ty u.1 u.2.1 u.2.2.1 ks I u.2.2.2.1 ac u.2.2.2.2.1 u.2.2.2.2.2) (va_A (rW g ty Y pa kp ks I tl ac wr tw) sz)) (va_A (rW g ty Y pa kp ks I tl ac wr tw) sz)) 0 0 (va_A (rW g ty Y pa kp ks I tl ac wr tw) sz) := by
  refine cc_of (Qa := fun A => va_Ql (fun (rz : Int64) (u : rY × (Nat → Int32) × (Nat → Int32) × (Nat → Int32) × Int32 × Int32) => ∃ (r' : Int64) (Y' : rY) (pa' kp' tl' : Nat → Int32) (wr' tw' : Int32), r' = rz ∧ (Y', pa', kp', tl', wr', tw') = u ∧ rAns u9 rz9 pl P md tl Y r' Y' pa' tl' wr' tw') (cB (dC, dI) (fun u : rY × (Nat → Int32) × (Nat → Int32) × (Nat → Int32) × Int32 × Int32 => rW g ty u.1 u.2.1 u.2.2.1 ks I u.2.2.2.1 ac u.2.2.2.2.1 u.2.2.2.2.2) A) A) (by decide) (Nat.le_of_ble_eq_true rfl) ?_
  intro p e s m below meth c A hx hb hr hml hown hg hlk hmn hP hK hD hT hS hA hsz ls hl
  have hown : s.vm.findClass RX12 = some m.cls := hown
  have rel := pre0
  have wf := pre1
  have hcnt := pre3
  have htl := pre4
  rcases pre7 with ⟨rfl, rfl, g2⟩ | ⟨t, rfl, rfl, g2, g3, g4⟩ | ⟨rfl, rfl, g2, g3⟩ | ⟨t, rfl, rfl, g2, g3, g4⟩
  · show _
    have hl : lv_has ls 7 [(0, .ref (g 8)), (1, .int 15), (2, .int a0), (3, .int b0), (4, .int c0)] := hl
    refine lv_iload_n hx hb dX12_boxes_0 rfl (lv_at hl 1 rfl) ?_
    refine lv_tableIn (off := 592) (tgt := 593) hx hb dX12_boxes_1 (by decide) (by decide) (by decide) (by decide) ?_
    refine lv_aload_n hx hb dX12_boxes_593 rfl (lv_at hl 0 rfl) ?_
    refine lv_iload_n hx hb dX12_boxes_594 rfl (lv_at hl 2 rfl) ?_
    refine lv_iload_n hx hb dX12_boxes_595 rfl (lv_at hl 1 rfl) ?_
    refine lv_bipush (v := 20) hx hb dX12_boxes_596 (by decide) ?_
    refine lv_icmp_ne (tgt := 606) hx hb dX12_boxes_598 (by decide) (fun _ => ?_) (fun c9 => absurd c9 (by decide)) 
    refine lv_iload_n hx hb dX12_boxes_606 rfl (lv_at hl 1 rfl) ?_
    refine lv_bipush (v := 21) hx hb dX12_boxes_607 (by decide) ?_
    refine lv_icmp_ne (tgt := 617) hx hb dX12_boxes_609 (by decide) (fun _ => ?_) (fun c9 => absurd c9 (by decide)) 
    refine lv_bipush (v := 12) hx hb dX12_boxes_617 (by decide) ?_
    refine cV_i (C := RX12) (n := 2) (rest := []) hx hb hml hown hg hT (c_X12_thing l dC dI g ty s.heap.size Y pa kp ks I tl ac wr tw ρ pl P a0 12 (by exact rel) (by exact wf) (by exact i32_in (by decide) (by decide))) (cv_of hg wM_X12_131 wN_X12_thing wL_X12_X12_thing wK_X12_thing wI_X12 (by decide +kernel) ⟨Nat.le_of_ble_eq_true rfl, Nat.le_of_ble_eq_true rfl⟩) hK hP hD hS hA (va_recv hK hP (ci := 14) (q0 := 0) rfl rfl) rfl hl.1 rfl (Nat.le_of_ble_eq_true rfl) dX12_boxes_619 ⟨Nat.le_of_ble_eq_true rfl, Nat.le_of_ble_eq_true rfl⟩ (fun r_2 u_3 H locs q_1 hP hD hS => ?_)
    rcases q_1 with ⟨rfl, rfl, f_4⟩ | ⟨t_5, rfl, rfl, f_6, f_7, f_8⟩ | ⟨rfl, rfl, f_9, f_10⟩ | ⟨t_11, rfl, rfl, f_12, f_13, f_14⟩
    · show _
      have hP : va_P (dC, dI) vwCl (rW g ty Y pa kp ks I tl ac 2 tw) H := hP
      have hD : va_D A (rW g ty Y pa kp ks I tl ac 2 tw) := hD
      refine lv_if_eq (tgt := 633) hx hb dX12_boxes_622 (by decide) (fun _ => ?_) (fun c9 => absurd (by decide) c9) 
      refine lv_aload_n hx hb dX12_boxes_633 rfl (lv_at hl 0 rfl) ?_
      refine cV_l (C := RX12) (n := 0) (rest := []) hx hb hml hown hg hT (c_X12_no l dC dI g ty H.size Y pa kp ks I tl ac 2 tw  ) (cv_of hg wM_X12_107 wN_X12_no wL_X12_X12_no wK_X12_no wI_X12 (by decide +kernel) ⟨Nat.le_of_ble_eq_true rfl, Nat.le_of_ble_eq_true rfl⟩) hK hP hD hS hA (va_recv hK hP (ci := 14) (q0 := 0) rfl rfl) rfl hl.1 rfl (Nat.le_of_ble_eq_true rfl) dX12_boxes_634 ⟨Nat.le_of_ble_eq_true rfl, Nat.le_of_ble_eq_true rfl⟩ (fun r_16 u_17 H locs q_15 hP hD hS => ?_)
      obtain ⟨rfl, rfl⟩ := q_15
      have hP : va_P (dC, dI) vwCl (rW g ty Y pa kp ks I tl ac 2 1) H := hP
      have hD : va_D A (rW g ty Y pa kp ks I tl ac 2 1) := hD
      refine cr_l (wo := fun u : rY × (Nat → Int32) × (Nat → Int32) × (Nat → Int32) × Int32 × Int32 => rW g ty u.1 u.2.1 u.2.2.1 ks I u.2.2.2.1 ac u.2.2.2.2.1 u.2.2.2.2.2) ((Y, pa, kp, tl, 2, 1)) hx hb hr hlk hS hP hD ?_ dX12_boxes_637
      exact ⟨0, Y, pa, kp, tl, 2, 1, rfl, rfl, (by exact ra_f (f := 2) rel hcnt htl (by decide))⟩
    · show _
      exact absurd f_6 (by assumption)
    · show _
      exact absurd f_9 (by assumption)
    · show _
      exact absurd f_12 (by assumption)
  · show _
    obtain ⟨n1t, n2t, n3t⟩ := rk_some rel g2 g3
    have hnet := (i32_pos n1t).2.1
    have tht := wf.1 _ _ g3
    have hl : lv_has ls 7 [(0, .ref (g 8)), (1, .int 15), (2, .int a0), (3, .int b0), (4, .int c0)] := hl
    refine lv_iload_n hx hb dX12_boxes_0 rfl (lv_at hl 1 rfl) ?_
    refine lv_tableIn (off := 592) (tgt := 593) hx hb dX12_boxes_1 (by decide) (by decide) (by decide) (by decide) ?_
    refine lv_aload_n hx hb dX12_boxes_593 rfl (lv_at hl 0 rfl) ?_
    refine lv_iload_n hx hb dX12_boxes_594 rfl (lv_at hl 2 rfl) ?_
    refine lv_iload_n hx hb dX12_boxes_595 rfl (lv_at hl 1 rfl) ?_
    refine lv_bipush (v := 20) hx hb dX12_boxes_596 (by decide) ?_
    refine lv_icmp_ne (tgt := 606) hx hb dX12_boxes_598 (by decide) (fun _ => ?_) (fun c9 => absurd c9 (by decide)) 
    refine lv_iload_n hx hb dX12_boxes_606 rfl (lv_at hl 1 rfl) ?_
    refine lv_bipush (v := 21) hx hb dX12_boxes_607 (by decide) ?_
    refine lv_icmp_ne (tgt := 617) hx hb dX12_boxes_609 (by decide) (fun _ => ?_) (fun c9 => absurd c9 (by decide)) 
    refine lv_bipush (v := 12) hx hb dX12_boxes_617 (by decide) ?_
    refine cV_i (C := RX12) (n := 2) (rest := []) hx hb hml hown hg hT (c_X12_thing l dC dI g ty s.heap.size Y pa kp ks I tl ac wr tw ρ pl P a0 12 (by exact rel) (by exact wf) (by exact i32_in (by decide) (by decide))) (cv_of hg wM_X12_131 wN_X12_thing wL_X12_X12_thing wK_X12_thing wI_X12 (by decide +kernel) ⟨Nat.le_of_ble_eq_true rfl, Nat.le_of_ble_eq_true rfl⟩) hK hP hD hS hA (va_recv hK hP (ci := 14) (q0 := 0) rfl rfl) rfl hl.1 rfl (Nat.le_of_ble_eq_true rfl) dX12_boxes_619 ⟨Nat.le_of_ble_eq_true rfl, Nat.le_of_ble_eq_true rfl⟩ (fun r_19 u_20 H locs q_18 hP hD hS => ?_)
    rcases q_18 with ⟨rfl, rfl, f_21⟩ | ⟨t_22, rfl, rfl, f_23, f_24, f_25⟩ | ⟨rfl, rfl, f_26, f_27⟩ | ⟨t_28, rfl, rfl, f_29, f_30, f_31⟩
    · show _
      exact absurd (by assumption) f_21
    · show _
      obtain rfl := Option.some.inj (g3.symm.trans f_24)
      have hP : va_P (dC, dI) vwCl (rW g ty Y pa kp ks I tl ac 3 tw) H := hP
      have hD : va_D A (rW g ty Y pa kp ks I tl ac 3 tw) := hD
      refine lv_if_eq (tgt := 633) hx hb dX12_boxes_622 (by decide) (fun _ => ?_) (fun c9 => absurd (by decide) c9) 
      refine lv_aload_n hx hb dX12_boxes_633 rfl (lv_at hl 0 rfl) ?_
      refine cV_l (C := RX12) (n := 0) (rest := []) hx hb hml hown hg hT (c_X12_no l dC dI g ty H.size Y pa kp ks I tl ac 3 tw  ) (cv_of hg wM_X12_107 wN_X12_no wL_X12_X12_no wK_X12_no wI_X12 (by decide +kernel) ⟨Nat.le_of_ble_eq_true rfl, Nat.le_of_ble_eq_true rfl⟩) hK hP hD hS hA (va_recv hK hP (ci := 14) (q0 := 0) rfl rfl) rfl hl.1 rfl (Nat.le_of_ble_eq_true rfl) dX12_boxes_634 ⟨Nat.le_of_ble_eq_true rfl, Nat.le_of_ble_eq_true rfl⟩ (fun r_33 u_34 H locs q_32 hP hD hS => ?_)
      obtain ⟨rfl, rfl⟩ := q_32
      have hP : va_P (dC, dI) vwCl (rW g ty Y pa kp ks I tl ac 3 1) H := hP
      have hD : va_D A (rW g ty Y pa kp ks I tl ac 3 1) := hD
      refine cr_l (wo := fun u : rY × (Nat → Int32) × (Nat → Int32) × (Nat → Int32) × Int32 × Int32 => rW g ty u.1 u.2.1 u.2.2.1 ks I u.2.2.2.1 ac u.2.2.2.2.1 u.2.2.2.2.2) ((Y, pa, kp, tl, 3, 1)) hx hb hr hlk hS hP hD ?_ dX12_boxes_637
      exact ⟨0, Y, pa, kp, tl, 3, 1, rfl, rfl, (by exact ra_f (f := 3) rel hcnt htl (by decide))⟩
    · show _
      exact absurd (g3.symm.trans f_27) (by simp)
    · show _
      obtain rfl := Option.some.inj (g3.symm.trans f_30); exact absurd (g4.symm.trans f_31) (by decide)
  · show _
    have hza0 := rk_none rel g2 g3
    have hl : lv_has ls 7 [(0, .ref (g 8)), (1, .int 15), (2, .int a0), (3, .int b0), (4, .int c0)] := hl
    refine lv_iload_n hx hb dX12_boxes_0 rfl (lv_at hl 1 rfl) ?_
    refine lv_tableIn (off := 592) (tgt := 593) hx hb dX12_boxes_1 (by decide) (by decide) (by decide) (by decide) ?_
    refine lv_aload_n hx hb dX12_boxes_593 rfl (lv_at hl 0 rfl) ?_
    refine lv_iload_n hx hb dX12_boxes_594 rfl (lv_at hl 2 rfl) ?_
    refine lv_iload_n hx hb dX12_boxes_595 rfl (lv_at hl 1 rfl) ?_
    refine lv_bipush (v := 20) hx hb dX12_boxes_596 (by decide) ?_
    refine lv_icmp_ne (tgt := 606) hx hb dX12_boxes_598 (by decide) (fun _ => ?_) (fun c9 => absurd c9 (by decide)) 
    refine lv_iload_n hx hb dX12_boxes_606 rfl (lv_at hl 1 rfl) ?_
    refine lv_bipush (v := 21) hx hb dX12_boxes_607 (by decide) ?_
    refine lv_icmp_ne (tgt := 617) hx hb dX12_boxes_609 (by decide) (fun _ => ?_) (fun c9 => absurd c9 (by decide)) 
    refine lv_bipush (v := 12) hx hb dX12_boxes_617 (by decide) ?_
    refine cV_i (C := RX12) (n := 2) (rest := []) hx hb hml hown hg hT (c_X12_thing l dC dI g ty s.heap.size Y pa kp ks I tl ac wr tw ρ pl P a0 12 (by exact rel) (by exact wf) (by exact i32_in (by decide) (by decide))) (cv_of hg wM_X12_131 wN_X12_thing wL_X12_X12_thing wK_X12_thing wI_X12 (by decide +kernel) ⟨Nat.le_of_ble_eq_true rfl, Nat.le_of_ble_eq_true rfl⟩) hK hP hD hS hA (va_recv hK hP (ci := 14) (q0 := 0) rfl rfl) rfl hl.1 rfl (Nat.le_of_ble_eq_true rfl) dX12_boxes_619 ⟨Nat.le_of_ble_eq_true rfl, Nat.le_of_ble_eq_true rfl⟩ (fun r_36 u_37 H locs q_35 hP hD hS => ?_)
    rcases q_35 with ⟨rfl, rfl, f_38⟩ | ⟨t_39, rfl, rfl, f_40, f_41, f_42⟩ | ⟨rfl, rfl, f_43, f_44⟩ | ⟨t_45, rfl, rfl, f_46, f_47, f_48⟩
    · show _
      exact absurd (by assumption) f_38
    · show _
      exact absurd (g3.symm.trans f_41) (by simp)
    · show _
      have hP : va_P (dC, dI) vwCl (rW g ty Y pa kp ks I tl ac wr tw) H := hP
      have hD : va_D A (rW g ty Y pa kp ks I tl ac wr tw) := hD
      refine lv_if_eq (tgt := 633) hx hb dX12_boxes_622 (by decide) (fun c9 => absurd c9 (by decide)) (fun _ => ?_)
      refine lv_aload_n hx hb dX12_boxes_625 rfl (lv_at hl 0 rfl) ?_
      refine lv_iload_n hx hb dX12_boxes_626 rfl (lv_at hl 2 rfl) ?_
      refine cV_i (C := RX12) (n := 1) (rest := []) hx hb hml hown hg hT (c_X12_need l dC dI g ty H.size Y pa kp ks I tl ac wr tw a0 (by assumption)) (cv_of hg wM_X12_134 wN_X12_need wL_X12_X12_need wK_X12_need wI_X12 (by decide +kernel) ⟨Nat.le_of_ble_eq_true rfl, Nat.le_of_ble_eq_true rfl⟩) hK hP hD hS hA (va_recv hK hP (ci := 14) (q0 := 0) rfl rfl) rfl hl.1 rfl (Nat.le_of_ble_eq_true rfl) dX12_boxes_627 ⟨Nat.le_of_ble_eq_true rfl, Nat.le_of_ble_eq_true rfl⟩ (fun r_50 u_51 H locs q_49 hP hD hS => ?_)
      rcases q_49 with ⟨rfl, rfl, f_52⟩ | ⟨rfl, rfl, f_53⟩
      · show _
        have hP : va_P (dC, dI) vwCl (rW g ty Y pa kp ks I tl ac 1 tw) H := hP
        have hD : va_D A (rW g ty Y pa kp ks I tl ac 1 tw) := hD
        refine lv_if_ne (tgt := 638) hx hb dX12_boxes_630 (by decide) (fun c9 => absurd (by decide) c9) (fun _ => ?_)
        refine lv_aload_n hx hb dX12_boxes_633 rfl (lv_at hl 0 rfl) ?_
        refine cV_l (C := RX12) (n := 0) (rest := []) hx hb hml hown hg hT (c_X12_no l dC dI g ty H.size Y pa kp ks I tl ac 1 tw  ) (cv_of hg wM_X12_107 wN_X12_no wL_X12_X12_no wK_X12_no wI_X12 (by decide +kernel) ⟨Nat.le_of_ble_eq_true rfl, Nat.le_of_ble_eq_true rfl⟩) hK hP hD hS hA (va_recv hK hP (ci := 14) (q0 := 0) rfl rfl) rfl hl.1 rfl (Nat.le_of_ble_eq_true rfl) dX12_boxes_634 ⟨Nat.le_of_ble_eq_true rfl, Nat.le_of_ble_eq_true rfl⟩ (fun r_55 u_56 H locs q_54 hP hD hS => ?_)
        obtain ⟨rfl, rfl⟩ := q_54
        have hP : va_P (dC, dI) vwCl (rW g ty Y pa kp ks I tl ac 1 1) H := hP
        have hD : va_D A (rW g ty Y pa kp ks I tl ac 1 1) := hD
        refine cr_l (wo := fun u : rY × (Nat → Int32) × (Nat → Int32) × (Nat → Int32) × Int32 × Int32 => rW g ty u.1 u.2.1 u.2.2.1 ks I u.2.2.2.1 ac u.2.2.2.2.1 u.2.2.2.2.2) ((Y, pa, kp, tl, 1, 1)) hx hb hr hlk hS hP hD ?_ dX12_boxes_637
        exact ⟨0, Y, pa, kp, tl, 1, 1, rfl, rfl, (by exact ra_f (f := 1) rel hcnt htl (by decide))⟩
      · show _
        exact absurd (by assumption) f_53
    · show _
      exact absurd (g3.symm.trans f_47) (by simp)
  · show _
    obtain ⟨n1t, n2t, n3t⟩ := rk_some rel g2 g3
    have hnet := (i32_pos n1t).2.1
    have tht := wf.1 _ _ g3
    have kt := cIs_2 (ki_12 wf tht.1 tht.2 g4)
    have hvt := rv_box rel n1t n2t n3t (by omega)
    have hl : lv_has ls 7 [(0, .ref (g 8)), (1, .int 15), (2, .int a0), (3, .int b0), (4, .int c0)] := hl
    refine lv_iload_n hx hb dX12_boxes_0 rfl (lv_at hl 1 rfl) ?_
    refine lv_tableIn (off := 592) (tgt := 593) hx hb dX12_boxes_1 (by decide) (by decide) (by decide) (by decide) ?_
    refine lv_aload_n hx hb dX12_boxes_593 rfl (lv_at hl 0 rfl) ?_
    refine lv_iload_n hx hb dX12_boxes_594 rfl (lv_at hl 2 rfl) ?_
    refine lv_iload_n hx hb dX12_boxes_595 rfl (lv_at hl 1 rfl) ?_
    refine lv_bipush (v := 20) hx hb dX12_boxes_596 (by decide) ?_
    refine lv_icmp_ne (tgt := 606) hx hb dX12_boxes_598 (by decide) (fun _ => ?_) (fun c9 => absurd c9 (by decide)) 
    refine lv_iload_n hx hb dX12_boxes_606 rfl (lv_at hl 1 rfl) ?_
    refine lv_bipush (v := 21) hx hb dX12_boxes_607 (by decide) ?_
    refine lv_icmp_ne (tgt := 617) hx hb dX12_boxes_609 (by decide) (fun _ => ?_) (fun c9 => absurd c9 (by decide)) 
    refine lv_bipush (v := 12) hx hb dX12_boxes_617 (by decide) ?_
    refine cV_i (C := RX12) (n := 2) (rest := []) hx hb hml hown hg hT (c_X12_thing l dC dI g ty s.heap.size Y pa kp ks I tl ac wr tw ρ pl P a0 12 (by exact rel) (by exact wf) (by exact i32_in (by decide) (by decide))) (cv_of hg wM_X12_131 wN_X12_thing wL_X12_X12_thing wK_X12_thing wI_X12 (by decide +kernel) ⟨Nat.le_of_ble_eq_true rfl, Nat.le_of_ble_eq_true rfl⟩) hK hP hD hS hA (va_recv hK hP (ci := 14) (q0 := 0) rfl rfl) rfl hl.1 rfl (Nat.le_of_ble_eq_true rfl) dX12_boxes_619 ⟨Nat.le_of_ble_eq_true rfl, Nat.le_of_ble_eq_true rfl⟩ (fun r_58 u_59 H locs q_57 hP hD hS => ?_)
    rcases q_57 with ⟨rfl, rfl, f_60⟩ | ⟨t_61, rfl, rfl, f_62, f_63, f_64⟩ | ⟨rfl, rfl, f_65, f_66⟩ | ⟨t_67, rfl, rfl, f_68, f_69, f_70⟩
    · show _
      exact absurd (by assumption) f_60
    · show _
      obtain rfl := Option.some.inj (g3.symm.trans f_63); exact absurd (g4.symm.trans f_64) (by decide)
    · show _
      exact absurd (g3.symm.trans f_66) (by simp)
    · show _
      obtain rfl := Option.some.inj (g3.symm.trans f_69)
      have hP : va_P (dC, dI) vwCl (rW g ty Y pa kp ks I tl ac wr tw) H := hP
      have hD : va_D A (rW g ty Y pa kp ks I tl ac wr tw) := hD
      refine lv_if_eq (tgt := 633) hx hb dX12_boxes_622 (by decide) (fun c9 => absurd c9 (by decide)) (fun _ => ?_)
      refine lv_aload_n hx hb dX12_boxes_625 rfl (lv_at hl 0 rfl) ?_
      refine lv_iload_n hx hb dX12_boxes_626 rfl (lv_at hl 2 rfl) ?_
      refine cV_i (C := RX12) (n := 1) (rest := []) hx hb hml hown hg hT (c_X12_need l dC dI g ty H.size Y pa kp ks I tl ac wr tw a0 (by assumption)) (cv_of hg wM_X12_134 wN_X12_need wL_X12_X12_need wK_X12_need wI_X12 (by decide +kernel) ⟨Nat.le_of_ble_eq_true rfl, Nat.le_of_ble_eq_true rfl⟩) hK hP hD hS hA (va_recv hK hP (ci := 14) (q0 := 0) rfl rfl) rfl hl.1 rfl (Nat.le_of_ble_eq_true rfl) dX12_boxes_627 ⟨Nat.le_of_ble_eq_true rfl, Nat.le_of_ble_eq_true rfl⟩ (fun r_72 u_73 H locs q_71 hP hD hS => ?_)
      rcases q_71 with ⟨rfl, rfl, f_74⟩ | ⟨rfl, rfl, f_75⟩
      · show _
        exact absurd f_74 (by assumption)
      · show _
        have hP : va_P (dC, dI) vwCl (rW g ty Y pa kp ks I tl ac wr tw) H := hP
        have hD : va_D A (rW g ty Y pa kp ks I tl ac wr tw) := hD
        refine lv_if_ne (tgt := 638) hx hb dX12_boxes_630 (by decide) (fun _ => ?_) (fun c9 => absurd c9 (by decide)) 
        refine lv_aload_n hx hb dX12_boxes_638 rfl (lv_at hl 0 rfl) ?_
        refine va_get (D := (dC, dI)) (ci := 14) (v := .ref (g 9)) (C := RX12) (T := TX12) (N := 21) hx hb hg inG12 hown hK hP 0 rfl rfl 8 (by decide) (hg _ wF_X12_34) (fun _ h9 => h9) rfl dX12_boxes_639 ?_
        refine lv_iload_n hx hb dX12_boxes_642 rfl (lv_at hl 2 rfl) ?_
        refine va_iald hx hb hK hP 7 0 rfl rfl (by assumption) dX12_boxes_643 ?_
        refine lv_istore (lv' := [(5, .int (pa a0.toNatClampNeg)), (0, .ref (g 8)), (1, .int 15), (2, .int a0), (3, .int b0), (4, .int c0)]) hx hb dX12_boxes_644 hl (by decide) rfl (fun ls hl => ?_)
        refine lv_aload_n hx hb dX12_boxes_646 rfl (lv_at hl 1 rfl) ?_
        refine lv_iload hx hb dX12_boxes_647 (lv_at hl 0 rfl) ?_
        refine lv_iconst (v := 0) hx hb dX12_boxes_649 (by decide) ?_
        refine cV_l (C := RX12) (n := 2) (rest := []) hx hb hml hown hg hT (c_X12_cell l dC dI g ty H.size Y pa kp ks I tl ac wr tw (pa a0.toNatClampNeg) 0 (by exact hvt.1) (by exact hvt.2.1 _ (i32_in (by decide) (by decide)))) (cv_of hg wM_X12_140 wN_X12_cell wL_X12_X12_cell wK_X12_cell wI_X12 (by decide +kernel) ⟨Nat.le_of_ble_eq_true rfl, Nat.le_of_ble_eq_true rfl⟩) hK hP hD hS hA (va_recv hK hP (ci := 14) (q0 := 0) rfl rfl) rfl hl.1 rfl (Nat.le_of_ble_eq_true rfl) dX12_boxes_650 ⟨Nat.le_of_ble_eq_true rfl, Nat.le_of_ble_eq_true rfl⟩ (fun r_77 u_78 H locs q_76 hP hD hS => ?_)
        obtain rfl := q_76
        have hP : va_P (dC, dI) vwCl (rW g ty Y pa kp ks I tl ac wr tw) H := hP
        have hD : va_D A (rW g ty Y pa kp ks I tl ac wr tw) := hD
        refine lv_l2i (v := ((Y.2.2.2.2.2.1 (Y.2.1 (pa a0.toNatClampNeg).toNatClampNeg + 0).toNatClampNeg).toInt32)) hx hb dX12_boxes_653 rfl ?_
        refine lv_topi (fun v9 ev90 => ?_)
        have ev9 : v9 = ((Y.2.2.2.2.2.1 (Y.2.1 (pa a0.toNatClampNeg).toNatClampNeg + 0).toNatClampNeg).toInt32) := ev90
        obtain rfl : v9 = P.2.2.1 t := by rw [ev9, hvt.2.2.1, i64_32]
        refine lv_istore (lv' := [(6, .int (P.2.2.1 t)), (5, .int (pa a0.toNatClampNeg)), (0, .ref (g 8)), (1, .int 15), (2, .int a0), (3, .int b0), (4, .int c0)]) hx hb dX12_boxes_654 hl (by decide) rfl (fun ls hl => ?_)
        refine lv_iload_n hx hb dX12_boxes_656 rfl (lv_at hl 3 rfl) ?_
        refine lv_bipush (v := 15) hx hb dX12_boxes_657 (by decide) ?_
        refine lv_icmp_ne (tgt := 666) hx hb dX12_boxes_659 (by decide) (fun c9 => absurd (by decide) c9) (fun _ => ?_)
        refine lv_iload hx hb dX12_boxes_662 (lv_at hl 0 rfl) ?_
        refine lv_i2l (v := ((P.2.2.1 t).toInt64)) hx hb dX12_boxes_664 rfl ?_
        refine cr_l (wo := fun u : rY × (Nat → Int32) × (Nat → Int32) × (Nat → Int32) × Int32 × Int32 => rW g ty u.1 u.2.1 u.2.2.1 ks I u.2.2.2.1 ac u.2.2.2.2.1 u.2.2.2.2.2) ((Y, pa, kp, tl, wr, tw)) hx hb hr hlk hS hP hD ?_ dX12_boxes_665
        exact ⟨((P.2.2.1 t).toInt64), Y, pa, kp, tl, wr, tw, rfl, rfl, (by subst pre6; exact ra_ok rel hcnt htl rfl)⟩
set_option maxHeartbeats 800000 in
set_option maxRecDepth 100000 in
theorem c_X12_boxes_16 (l : Launch) (dC : Nat → ClassId) (dI : Nat → Nat → Nat) (g : Nat → Nat) (ty : Nat → ClassId) (sz : Nat) (Y : rY) (pa : Nat → Int32) (kp : Nat → Int32) (ks : Int32) (I : rI) (tl : Nat → Int32) (ac : Int64) (wr : Int32) (tw : Int32) (ρ : Nat → Nat) (pl : Nat → Option Nat) (P : cQ) (md : Int32) (Z : cZ) (rz9 : Int64) (u9 : Int32 × cQ) (a0 : Int32) (b0 : Int32) (c0 : Int32) (pre0 : rR Y.2.2.2.2.2.2.2.2.2.1 Y pa ρ pl P) (pre1 : cWF pl P) (pre2 : ks = 0) (pre3 : rCnt Y md) (pre4 : tl 5 = md) (pre5 : 0 ≤ md ∧ md ≤ 6000) (pre6 : tw = 0) (pre7 : q_X11_changeBox a0 pl ac (-1) md Z P rz9 u9) : Met l yX12_boxes (Cond.code yX12_boxes cX12_boxes 7 (some .long) :: gT) ({ frames := 3, cells := 0, slots := 0, locals := 82 }) (cP (dC, dI) (rTy ty) (rW g ty Y pa kp ks I tl ac wr tw) sz [.ref (g 8), .int 16, .int a0, .int b0, .int c0]) (va_Ql (fun (rz : Int64) (u : rY × (Nat → Int32) × (Nat → Int32) × (Nat → Int32) × Int32 × Int32) => ∃ (r' : Int64) (Y' : rY) (pa' kp' tl' : Nat → Int32) (wr' tw' : Int32), r' = rz ∧ (Y', pa', kp', tl', wr', tw') = u ∧ rAns u9.1 rz9 pl u9.2 md tl Y r' Y' pa' tl' wr' tw') (cB (dC, dI) (fun u : rY × (Nat → Int32) × (Nat → Int32) × (Nat → Int32) × Int32 × Int32 => rW g ty u.1 u.2.1 u.2.2.1 ks I u.2.2.2.1 ac u.2.2.2.2.1 u.2.2.2.2.2) (va_A (rW g ty Y pa kp ks I tl ac wr tw) sz)) (va_A (rW g ty Y pa kp ks I tl ac wr tw) sz)) 0 0 (va_A (rW g ty Y pa kp ks I tl ac wr tw) sz) := by
  refine cc_of (Qa := fun A => va_Ql (fun (rz : Int64) (u : rY × (Nat → Int32) × (Nat → Int32) × (Nat → Int32) × Int32 × Int32) => ∃ (r' : Int64) (Y' : rY) (pa' kp' tl' : Nat → Int32) (wr' tw' : Int32), r' = rz ∧ (Y', pa', kp', tl', wr', tw') = u ∧ rAns u9.1 rz9 pl u9.2 md tl Y r' Y' pa' tl' wr' tw') (cB (dC, dI) (fun u : rY × (Nat → Int32) × (Nat → Int32) × (Nat → Int32) × Int32 × Int32 => rW g ty u.1 u.2.1 u.2.2.1 ks I u.2.2.2.1 ac u.2.2.2.2.1 u.2.2.2.2.2) A) A) (by decide) (Nat.le_of_ble_eq_true rfl) ?_
  intro p e s m below meth c A hx hb hr hml hown hg hlk hmn hP hK hD hT hS hA hsz ls hl
  have hown : s.vm.findClass RX12 = some m.cls := hown
  have rel := pre0
  have wf := pre1
  have hcnt := pre3
  have htl := pre4
  rcases pre7 with ⟨rfl, rfl, g2⟩ | ⟨t, rfl, rfl, g2, g3, g4⟩ | ⟨rfl, rfl, g2, g3⟩ | ⟨t, rfl, rfl, g2, g3, g4⟩
  · show _
    have hl : lv_has ls 7 [(0, .ref (g 8)), (1, .int 16), (2, .int a0), (3, .int b0), (4, .int c0)] := hl
    refine lv_iload_n hx hb dX12_boxes_0 rfl (lv_at hl 1 rfl) ?_
    refine lv_tableIn (off := 592) (tgt := 593) hx hb dX12_boxes_1 (by decide) (by decide) (by decide) (by decide) ?_
    refine lv_aload_n hx hb dX12_boxes_593 rfl (lv_at hl 0 rfl) ?_
    refine lv_iload_n hx hb dX12_boxes_594 rfl (lv_at hl 2 rfl) ?_
    refine lv_iload_n hx hb dX12_boxes_595 rfl (lv_at hl 1 rfl) ?_
    refine lv_bipush (v := 20) hx hb dX12_boxes_596 (by decide) ?_
    refine lv_icmp_ne (tgt := 606) hx hb dX12_boxes_598 (by decide) (fun _ => ?_) (fun c9 => absurd c9 (by decide)) 
    refine lv_iload_n hx hb dX12_boxes_606 rfl (lv_at hl 1 rfl) ?_
    refine lv_bipush (v := 21) hx hb dX12_boxes_607 (by decide) ?_
    refine lv_icmp_ne (tgt := 617) hx hb dX12_boxes_609 (by decide) (fun _ => ?_) (fun c9 => absurd c9 (by decide)) 
    refine lv_bipush (v := 12) hx hb dX12_boxes_617 (by decide) ?_
    refine cV_i (C := RX12) (n := 2) (rest := []) hx hb hml hown hg hT (c_X12_thing l dC dI g ty s.heap.size Y pa kp ks I tl ac wr tw ρ pl P a0 12 (by exact rel) (by exact wf) (by exact i32_in (by decide) (by decide))) (cv_of hg wM_X12_131 wN_X12_thing wL_X12_X12_thing wK_X12_thing wI_X12 (by decide +kernel) ⟨Nat.le_of_ble_eq_true rfl, Nat.le_of_ble_eq_true rfl⟩) hK hP hD hS hA (va_recv hK hP (ci := 14) (q0 := 0) rfl rfl) rfl hl.1 rfl (Nat.le_of_ble_eq_true rfl) dX12_boxes_619 ⟨Nat.le_of_ble_eq_true rfl, Nat.le_of_ble_eq_true rfl⟩ (fun r_2 u_3 H locs q_1 hP hD hS => ?_)
    rcases q_1 with ⟨rfl, rfl, f_4⟩ | ⟨t_5, rfl, rfl, f_6, f_7, f_8⟩ | ⟨rfl, rfl, f_9, f_10⟩ | ⟨t_11, rfl, rfl, f_12, f_13, f_14⟩
    · show _
      have hP : va_P (dC, dI) vwCl (rW g ty Y pa kp ks I tl ac 2 tw) H := hP
      have hD : va_D A (rW g ty Y pa kp ks I tl ac 2 tw) := hD
      refine lv_if_eq (tgt := 633) hx hb dX12_boxes_622 (by decide) (fun _ => ?_) (fun c9 => absurd (by decide) c9) 
      refine lv_aload_n hx hb dX12_boxes_633 rfl (lv_at hl 0 rfl) ?_
      refine cV_l (C := RX12) (n := 0) (rest := []) hx hb hml hown hg hT (c_X12_no l dC dI g ty H.size Y pa kp ks I tl ac 2 tw  ) (cv_of hg wM_X12_107 wN_X12_no wL_X12_X12_no wK_X12_no wI_X12 (by decide +kernel) ⟨Nat.le_of_ble_eq_true rfl, Nat.le_of_ble_eq_true rfl⟩) hK hP hD hS hA (va_recv hK hP (ci := 14) (q0 := 0) rfl rfl) rfl hl.1 rfl (Nat.le_of_ble_eq_true rfl) dX12_boxes_634 ⟨Nat.le_of_ble_eq_true rfl, Nat.le_of_ble_eq_true rfl⟩ (fun r_16 u_17 H locs q_15 hP hD hS => ?_)
      obtain ⟨rfl, rfl⟩ := q_15
      have hP : va_P (dC, dI) vwCl (rW g ty Y pa kp ks I tl ac 2 1) H := hP
      have hD : va_D A (rW g ty Y pa kp ks I tl ac 2 1) := hD
      refine cr_l (wo := fun u : rY × (Nat → Int32) × (Nat → Int32) × (Nat → Int32) × Int32 × Int32 => rW g ty u.1 u.2.1 u.2.2.1 ks I u.2.2.2.1 ac u.2.2.2.2.1 u.2.2.2.2.2) ((Y, pa, kp, tl, 2, 1)) hx hb hr hlk hS hP hD ?_ dX12_boxes_637
      exact ⟨0, Y, pa, kp, tl, 2, 1, rfl, rfl, (by exact ra_f (f := 2) rel hcnt htl (by decide))⟩
    · show _
      exact absurd f_6 (by assumption)
    · show _
      exact absurd f_9 (by assumption)
    · show _
      exact absurd f_12 (by assumption)
  · show _
    obtain ⟨n1t, n2t, n3t⟩ := rk_some rel g2 g3
    have hnet := (i32_pos n1t).2.1
    have tht := wf.1 _ _ g3
    have hl : lv_has ls 7 [(0, .ref (g 8)), (1, .int 16), (2, .int a0), (3, .int b0), (4, .int c0)] := hl
    refine lv_iload_n hx hb dX12_boxes_0 rfl (lv_at hl 1 rfl) ?_
    refine lv_tableIn (off := 592) (tgt := 593) hx hb dX12_boxes_1 (by decide) (by decide) (by decide) (by decide) ?_
    refine lv_aload_n hx hb dX12_boxes_593 rfl (lv_at hl 0 rfl) ?_
    refine lv_iload_n hx hb dX12_boxes_594 rfl (lv_at hl 2 rfl) ?_
    refine lv_iload_n hx hb dX12_boxes_595 rfl (lv_at hl 1 rfl) ?_
    refine lv_bipush (v := 20) hx hb dX12_boxes_596 (by decide) ?_
    refine lv_icmp_ne (tgt := 606) hx hb dX12_boxes_598 (by decide) (fun _ => ?_) (fun c9 => absurd c9 (by decide)) 
    refine lv_iload_n hx hb dX12_boxes_606 rfl (lv_at hl 1 rfl) ?_
    refine lv_bipush (v := 21) hx hb dX12_boxes_607 (by decide) ?_
    refine lv_icmp_ne (tgt := 617) hx hb dX12_boxes_609 (by decide) (fun _ => ?_) (fun c9 => absurd c9 (by decide)) 
    refine lv_bipush (v := 12) hx hb dX12_boxes_617 (by decide) ?_
    refine cV_i (C := RX12) (n := 2) (rest := []) hx hb hml hown hg hT (c_X12_thing l dC dI g ty s.heap.size Y pa kp ks I tl ac wr tw ρ pl P a0 12 (by exact rel) (by exact wf) (by exact i32_in (by decide) (by decide))) (cv_of hg wM_X12_131 wN_X12_thing wL_X12_X12_thing wK_X12_thing wI_X12 (by decide +kernel) ⟨Nat.le_of_ble_eq_true rfl, Nat.le_of_ble_eq_true rfl⟩) hK hP hD hS hA (va_recv hK hP (ci := 14) (q0 := 0) rfl rfl) rfl hl.1 rfl (Nat.le_of_ble_eq_true rfl) dX12_boxes_619 ⟨Nat.le_of_ble_eq_true rfl, Nat.le_of_ble_eq_true rfl⟩ (fun r_19 u_20 H locs q_18 hP hD hS => ?_)
    rcases q_18 with ⟨rfl, rfl, f_21⟩ | ⟨t_22, rfl, rfl, f_23, f_24, f_25⟩ | ⟨rfl, rfl, f_26, f_27⟩ | ⟨t_28, rfl, rfl, f_29, f_30, f_31⟩
    · show _
      exact absurd (by assumption) f_21
    · show _
      obtain rfl := Option.some.inj (g3.symm.trans f_24)
      have hP : va_P (dC, dI) vwCl (rW g ty Y pa kp ks I tl ac 3 tw) H := hP
      have hD : va_D A (rW g ty Y pa kp ks I tl ac 3 tw) := hD
      refine lv_if_eq (tgt := 633) hx hb dX12_boxes_622 (by decide) (fun _ => ?_) (fun c9 => absurd (by decide) c9) 
      refine lv_aload_n hx hb dX12_boxes_633 rfl (lv_at hl 0 rfl) ?_
      refine cV_l (C := RX12) (n := 0) (rest := []) hx hb hml hown hg hT (c_X12_no l dC dI g ty H.size Y pa kp ks I tl ac 3 tw  ) (cv_of hg wM_X12_107 wN_X12_no wL_X12_X12_no wK_X12_no wI_X12 (by decide +kernel) ⟨Nat.le_of_ble_eq_true rfl, Nat.le_of_ble_eq_true rfl⟩) hK hP hD hS hA (va_recv hK hP (ci := 14) (q0 := 0) rfl rfl) rfl hl.1 rfl (Nat.le_of_ble_eq_true rfl) dX12_boxes_634 ⟨Nat.le_of_ble_eq_true rfl, Nat.le_of_ble_eq_true rfl⟩ (fun r_33 u_34 H locs q_32 hP hD hS => ?_)
      obtain ⟨rfl, rfl⟩ := q_32
      have hP : va_P (dC, dI) vwCl (rW g ty Y pa kp ks I tl ac 3 1) H := hP
      have hD : va_D A (rW g ty Y pa kp ks I tl ac 3 1) := hD
      refine cr_l (wo := fun u : rY × (Nat → Int32) × (Nat → Int32) × (Nat → Int32) × Int32 × Int32 => rW g ty u.1 u.2.1 u.2.2.1 ks I u.2.2.2.1 ac u.2.2.2.2.1 u.2.2.2.2.2) ((Y, pa, kp, tl, 3, 1)) hx hb hr hlk hS hP hD ?_ dX12_boxes_637
      exact ⟨0, Y, pa, kp, tl, 3, 1, rfl, rfl, (by exact ra_f (f := 3) rel hcnt htl (by decide))⟩
    · show _
      exact absurd (g3.symm.trans f_27) (by simp)
    · show _
      obtain rfl := Option.some.inj (g3.symm.trans f_30); exact absurd (g4.symm.trans f_31) (by decide)
  · show _
    have hza0 := rk_none rel g2 g3
    have hl : lv_has ls 7 [(0, .ref (g 8)), (1, .int 16), (2, .int a0), (3, .int b0), (4, .int c0)] := hl
    refine lv_iload_n hx hb dX12_boxes_0 rfl (lv_at hl 1 rfl) ?_
    refine lv_tableIn (off := 592) (tgt := 593) hx hb dX12_boxes_1 (by decide) (by decide) (by decide) (by decide) ?_
    refine lv_aload_n hx hb dX12_boxes_593 rfl (lv_at hl 0 rfl) ?_
    refine lv_iload_n hx hb dX12_boxes_594 rfl (lv_at hl 2 rfl) ?_
    refine lv_iload_n hx hb dX12_boxes_595 rfl (lv_at hl 1 rfl) ?_
    refine lv_bipush (v := 20) hx hb dX12_boxes_596 (by decide) ?_
    refine lv_icmp_ne (tgt := 606) hx hb dX12_boxes_598 (by decide) (fun _ => ?_) (fun c9 => absurd c9 (by decide)) 
    refine lv_iload_n hx hb dX12_boxes_606 rfl (lv_at hl 1 rfl) ?_
    refine lv_bipush (v := 21) hx hb dX12_boxes_607 (by decide) ?_
    refine lv_icmp_ne (tgt := 617) hx hb dX12_boxes_609 (by decide) (fun _ => ?_) (fun c9 => absurd c9 (by decide)) 
    refine lv_bipush (v := 12) hx hb dX12_boxes_617 (by decide) ?_
    refine cV_i (C := RX12) (n := 2) (rest := []) hx hb hml hown hg hT (c_X12_thing l dC dI g ty s.heap.size Y pa kp ks I tl ac wr tw ρ pl P a0 12 (by exact rel) (by exact wf) (by exact i32_in (by decide) (by decide))) (cv_of hg wM_X12_131 wN_X12_thing wL_X12_X12_thing wK_X12_thing wI_X12 (by decide +kernel) ⟨Nat.le_of_ble_eq_true rfl, Nat.le_of_ble_eq_true rfl⟩) hK hP hD hS hA (va_recv hK hP (ci := 14) (q0 := 0) rfl rfl) rfl hl.1 rfl (Nat.le_of_ble_eq_true rfl) dX12_boxes_619 ⟨Nat.le_of_ble_eq_true rfl, Nat.le_of_ble_eq_true rfl⟩ (fun r_36 u_37 H locs q_35 hP hD hS => ?_)
    rcases q_35 with ⟨rfl, rfl, f_38⟩ | ⟨t_39, rfl, rfl, f_40, f_41, f_42⟩ | ⟨rfl, rfl, f_43, f_44⟩ | ⟨t_45, rfl, rfl, f_46, f_47, f_48⟩
    · show _
      exact absurd (by assumption) f_38
    · show _
      exact absurd (g3.symm.trans f_41) (by simp)
    · show _
      have hP : va_P (dC, dI) vwCl (rW g ty Y pa kp ks I tl ac wr tw) H := hP
      have hD : va_D A (rW g ty Y pa kp ks I tl ac wr tw) := hD
      refine lv_if_eq (tgt := 633) hx hb dX12_boxes_622 (by decide) (fun c9 => absurd c9 (by decide)) (fun _ => ?_)
      refine lv_aload_n hx hb dX12_boxes_625 rfl (lv_at hl 0 rfl) ?_
      refine lv_iload_n hx hb dX12_boxes_626 rfl (lv_at hl 2 rfl) ?_
      refine cV_i (C := RX12) (n := 1) (rest := []) hx hb hml hown hg hT (c_X12_need l dC dI g ty H.size Y pa kp ks I tl ac wr tw a0 (by assumption)) (cv_of hg wM_X12_134 wN_X12_need wL_X12_X12_need wK_X12_need wI_X12 (by decide +kernel) ⟨Nat.le_of_ble_eq_true rfl, Nat.le_of_ble_eq_true rfl⟩) hK hP hD hS hA (va_recv hK hP (ci := 14) (q0 := 0) rfl rfl) rfl hl.1 rfl (Nat.le_of_ble_eq_true rfl) dX12_boxes_627 ⟨Nat.le_of_ble_eq_true rfl, Nat.le_of_ble_eq_true rfl⟩ (fun r_50 u_51 H locs q_49 hP hD hS => ?_)
      rcases q_49 with ⟨rfl, rfl, f_52⟩ | ⟨rfl, rfl, f_53⟩
      · show _
        have hP : va_P (dC, dI) vwCl (rW g ty Y pa kp ks I tl ac 1 tw) H := hP
        have hD : va_D A (rW g ty Y pa kp ks I tl ac 1 tw) := hD
        refine lv_if_ne (tgt := 638) hx hb dX12_boxes_630 (by decide) (fun c9 => absurd (by decide) c9) (fun _ => ?_)
        refine lv_aload_n hx hb dX12_boxes_633 rfl (lv_at hl 0 rfl) ?_
        refine cV_l (C := RX12) (n := 0) (rest := []) hx hb hml hown hg hT (c_X12_no l dC dI g ty H.size Y pa kp ks I tl ac 1 tw  ) (cv_of hg wM_X12_107 wN_X12_no wL_X12_X12_no wK_X12_no wI_X12 (by decide +kernel) ⟨Nat.le_of_ble_eq_true rfl, Nat.le_of_ble_eq_true rfl⟩) hK hP hD hS hA (va_recv hK hP (ci := 14) (q0 := 0) rfl rfl) rfl hl.1 rfl (Nat.le_of_ble_eq_true rfl) dX12_boxes_634 ⟨Nat.le_of_ble_eq_true rfl, Nat.le_of_ble_eq_true rfl⟩ (fun r_55 u_56 H locs q_54 hP hD hS => ?_)
        obtain ⟨rfl, rfl⟩ := q_54
        have hP : va_P (dC, dI) vwCl (rW g ty Y pa kp ks I tl ac 1 1) H := hP
        have hD : va_D A (rW g ty Y pa kp ks I tl ac 1 1) := hD
        refine cr_l (wo := fun u : rY × (Nat → Int32) × (Nat → Int32) × (Nat → Int32) × Int32 × Int32 => rW g ty u.1 u.2.1 u.2.2.1 ks I u.2.2.2.1 ac u.2.2.2.2.1 u.2.2.2.2.2) ((Y, pa, kp, tl, 1, 1)) hx hb hr hlk hS hP hD ?_ dX12_boxes_637
        exact ⟨0, Y, pa, kp, tl, 1, 1, rfl, rfl, (by exact ra_f (f := 1) rel hcnt htl (by decide))⟩
      · show _
        exact absurd (by assumption) f_53
    · show _
      exact absurd (g3.symm.trans f_47) (by simp)
  · show _
    obtain ⟨n1t, n2t, n3t⟩ := rk_some rel g2 g3
    have hnet := (i32_pos n1t).2.1
    have tht := wf.1 _ _ g3
    have kt := cIs_2 (ki_12 wf tht.1 tht.2 g4)
    have hvt := rv_box rel n1t n2t n3t (by omega)
    have hl : lv_has ls 7 [(0, .ref (g 8)), (1, .int 16), (2, .int a0), (3, .int b0), (4, .int c0)] := hl
    refine lv_iload_n hx hb dX12_boxes_0 rfl (lv_at hl 1 rfl) ?_
    refine lv_tableIn (off := 592) (tgt := 593) hx hb dX12_boxes_1 (by decide) (by decide) (by decide) (by decide) ?_
    refine lv_aload_n hx hb dX12_boxes_593 rfl (lv_at hl 0 rfl) ?_
    refine lv_iload_n hx hb dX12_boxes_594 rfl (lv_at hl 2 rfl) ?_
    refine lv_iload_n hx hb dX12_boxes_595 rfl (lv_at hl 1 rfl) ?_
    refine lv_bipush (v := 20) hx hb dX12_boxes_596 (by decide) ?_
    refine lv_icmp_ne (tgt := 606) hx hb dX12_boxes_598 (by decide) (fun _ => ?_) (fun c9 => absurd c9 (by decide)) 
    refine lv_iload_n hx hb dX12_boxes_606 rfl (lv_at hl 1 rfl) ?_
    refine lv_bipush (v := 21) hx hb dX12_boxes_607 (by decide) ?_
    refine lv_icmp_ne (tgt := 617) hx hb dX12_boxes_609 (by decide) (fun _ => ?_) (fun c9 => absurd c9 (by decide)) 
    refine lv_bipush (v := 12) hx hb dX12_boxes_617 (by decide) ?_
    refine cV_i (C := RX12) (n := 2) (rest := []) hx hb hml hown hg hT (c_X12_thing l dC dI g ty s.heap.size Y pa kp ks I tl ac wr tw ρ pl P a0 12 (by exact rel) (by exact wf) (by exact i32_in (by decide) (by decide))) (cv_of hg wM_X12_131 wN_X12_thing wL_X12_X12_thing wK_X12_thing wI_X12 (by decide +kernel) ⟨Nat.le_of_ble_eq_true rfl, Nat.le_of_ble_eq_true rfl⟩) hK hP hD hS hA (va_recv hK hP (ci := 14) (q0 := 0) rfl rfl) rfl hl.1 rfl (Nat.le_of_ble_eq_true rfl) dX12_boxes_619 ⟨Nat.le_of_ble_eq_true rfl, Nat.le_of_ble_eq_true rfl⟩ (fun r_58 u_59 H locs q_57 hP hD hS => ?_)
    rcases q_57 with ⟨rfl, rfl, f_60⟩ | ⟨t_61, rfl, rfl, f_62, f_63, f_64⟩ | ⟨rfl, rfl, f_65, f_66⟩ | ⟨t_67, rfl, rfl, f_68, f_69, f_70⟩
    · show _
      exact absurd (by assumption) f_60
    · show _
      obtain rfl := Option.some.inj (g3.symm.trans f_63); exact absurd (g4.symm.trans f_64) (by decide)
    · show _
      exact absurd (g3.symm.trans f_66) (by simp)
    · show _
      obtain rfl := Option.some.inj (g3.symm.trans f_69)
      have hP : va_P (dC, dI) vwCl (rW g ty Y pa kp ks I tl ac wr tw) H := hP
      have hD : va_D A (rW g ty Y pa kp ks I tl ac wr tw) := hD
      refine lv_if_eq (tgt := 633) hx hb dX12_boxes_622 (by decide) (fun c9 => absurd c9 (by decide)) (fun _ => ?_)
      refine lv_aload_n hx hb dX12_boxes_625 rfl (lv_at hl 0 rfl) ?_
      refine lv_iload_n hx hb dX12_boxes_626 rfl (lv_at hl 2 rfl) ?_
      refine cV_i (C := RX12) (n := 1) (rest := []) hx hb hml hown hg hT (c_X12_need l dC dI g ty H.size Y pa kp ks I tl ac wr tw a0 (by assumption)) (cv_of hg wM_X12_134 wN_X12_need wL_X12_X12_need wK_X12_need wI_X12 (by decide +kernel) ⟨Nat.le_of_ble_eq_true rfl, Nat.le_of_ble_eq_true rfl⟩) hK hP hD hS hA (va_recv hK hP (ci := 14) (q0 := 0) rfl rfl) rfl hl.1 rfl (Nat.le_of_ble_eq_true rfl) dX12_boxes_627 ⟨Nat.le_of_ble_eq_true rfl, Nat.le_of_ble_eq_true rfl⟩ (fun r_72 u_73 H locs q_71 hP hD hS => ?_)
      rcases q_71 with ⟨rfl, rfl, f_74⟩ | ⟨rfl, rfl, f_75⟩
      · show _
        exact absurd f_74 (by assumption)
      · show _
        have hP : va_P (dC, dI) vwCl (rW g ty Y pa kp ks I tl ac wr tw) H := hP
        have hD : va_D A (rW g ty Y pa kp ks I tl ac wr tw) := hD
        refine lv_if_ne (tgt := 638) hx hb dX12_boxes_630 (by decide) (fun _ => ?_) (fun c9 => absurd c9 (by decide)) 
        refine lv_aload_n hx hb dX12_boxes_638 rfl (lv_at hl 0 rfl) ?_
        refine va_get (D := (dC, dI)) (ci := 14) (v := .ref (g 9)) (C := RX12) (T := TX12) (N := 21) hx hb hg inG12 hown hK hP 0 rfl rfl 8 (by decide) (hg _ wF_X12_34) (fun _ h9 => h9) rfl dX12_boxes_639 ?_
        refine lv_iload_n hx hb dX12_boxes_642 rfl (lv_at hl 2 rfl) ?_
        refine va_iald hx hb hK hP 7 0 rfl rfl (by assumption) dX12_boxes_643 ?_
        refine lv_istore (lv' := [(5, .int (pa a0.toNatClampNeg)), (0, .ref (g 8)), (1, .int 16), (2, .int a0), (3, .int b0), (4, .int c0)]) hx hb dX12_boxes_644 hl (by decide) rfl (fun ls hl => ?_)
        refine lv_aload_n hx hb dX12_boxes_646 rfl (lv_at hl 1 rfl) ?_
        refine lv_iload hx hb dX12_boxes_647 (lv_at hl 0 rfl) ?_
        refine lv_iconst (v := 0) hx hb dX12_boxes_649 (by decide) ?_
        refine cV_l (C := RX12) (n := 2) (rest := []) hx hb hml hown hg hT (c_X12_cell l dC dI g ty H.size Y pa kp ks I tl ac wr tw (pa a0.toNatClampNeg) 0 (by exact hvt.1) (by exact hvt.2.1 _ (i32_in (by decide) (by decide)))) (cv_of hg wM_X12_140 wN_X12_cell wL_X12_X12_cell wK_X12_cell wI_X12 (by decide +kernel) ⟨Nat.le_of_ble_eq_true rfl, Nat.le_of_ble_eq_true rfl⟩) hK hP hD hS hA (va_recv hK hP (ci := 14) (q0 := 0) rfl rfl) rfl hl.1 rfl (Nat.le_of_ble_eq_true rfl) dX12_boxes_650 ⟨Nat.le_of_ble_eq_true rfl, Nat.le_of_ble_eq_true rfl⟩ (fun r_77 u_78 H locs q_76 hP hD hS => ?_)
        obtain rfl := q_76
        have hP : va_P (dC, dI) vwCl (rW g ty Y pa kp ks I tl ac wr tw) H := hP
        have hD : va_D A (rW g ty Y pa kp ks I tl ac wr tw) := hD
        refine lv_l2i (v := ((Y.2.2.2.2.2.1 (Y.2.1 (pa a0.toNatClampNeg).toNatClampNeg + 0).toNatClampNeg).toInt32)) hx hb dX12_boxes_653 rfl ?_
        refine lv_topi (fun v9 ev90 => ?_)
        have ev9 : v9 = ((Y.2.2.2.2.2.1 (Y.2.1 (pa a0.toNatClampNeg).toNatClampNeg + 0).toNatClampNeg).toInt32) := ev90
        obtain rfl : v9 = P.2.2.1 t := by rw [ev9, hvt.2.2.1, i64_32]
        refine lv_istore (lv' := [(6, .int (P.2.2.1 t)), (5, .int (pa a0.toNatClampNeg)), (0, .ref (g 8)), (1, .int 16), (2, .int a0), (3, .int b0), (4, .int c0)]) hx hb dX12_boxes_654 hl (by decide) rfl (fun ls hl => ?_)
        refine lv_iload_n hx hb dX12_boxes_656 rfl (lv_at hl 3 rfl) ?_
        refine lv_bipush (v := 15) hx hb dX12_boxes_657 (by decide) ?_
        refine lv_icmp_ne (tgt := 666) hx hb dX12_boxes_659 (by decide) (fun _ => ?_) (fun c9 => absurd c9 (by decide)) 
        refine lv_iload_n hx hb dX12_boxes_666 rfl (lv_at hl 3 rfl) ?_
        refine lv_bipush (v := 16) hx hb dX12_boxes_667 (by decide) ?_
        refine lv_icmp_ne (tgt := 689) hx hb dX12_boxes_669 (by decide) (fun c9 => absurd (by decide) c9) (fun _ => ?_)
        refine lv_aload_n hx hb dX12_boxes_672 rfl (lv_at hl 2 rfl) ?_
        refine lv_iload hx hb dX12_boxes_673 (lv_at hl 1 rfl) ?_
        refine lv_iconst (v := 0) hx hb dX12_boxes_675 (by decide) ?_
        refine lv_aload_n hx hb dX12_boxes_676 rfl (lv_at hl 2 rfl) ?_
        refine va_get (D := (dC, dI)) (ci := 14) (v := .long ac) (C := RX12) (T := TX12) (N := 21) hx hb hg inG12 hown hK hP 0 rfl rfl 13 (by decide) (hg _ wF_X12_143) (fun _ h9 => h9) rfl dX12_boxes_677 ?_
        refine lv_l2i (v := (ac.toInt32)) hx hb dX12_boxes_680 rfl ?_
        refine lv_i2l (v := ((ac.toInt32).toInt64)) hx hb dX12_boxes_681 rfl ?_
        refine cV_v (C := RX12) (n := 3) (rest := []) hx hb hml hown hg hT (c_X12_put l dC dI g ty H.size Y pa kp ks I tl ac wr tw (pa a0.toNatClampNeg) 0 ((ac.toInt32).toInt64) (by exact hvt.1) (by exact hvt.2.1 _ (i32_in (by decide) (by decide)))) (cv_of hg wM_X12_151 wN_X12_put wL_X12_X12_put wK_X12_put wI_X12 (by decide +kernel) ⟨Nat.le_of_ble_eq_true rfl, Nat.le_of_ble_eq_true rfl⟩) hK hP hD hS hA (va_recv hK hP (ci := 14) (q0 := 0) rfl rfl) rfl hl.1 rfl (Nat.le_of_ble_eq_true rfl) dX12_boxes_682 ⟨Nat.le_of_ble_eq_true rfl, Nat.le_of_ble_eq_true rfl⟩ (fun u_81 H locs q_79 hP hD hS => ?_)
        obtain rfl := q_79
        have hP : va_P (dC, dI) vwCl (rW g ty (Y.1, Y.2.1, Y.2.2.1, Y.2.2.2.1, Y.2.2.2.2.1, (vp_updL Y.2.2.2.2.2.1 (Y.2.1 (pa a0.toNatClampNeg).toNatClampNeg + 0).toNatClampNeg ((ac.toInt32).toInt64)), Y.2.2.2.2.2.2.1, Y.2.2.2.2.2.2.2.1, Y.2.2.2.2.2.2.2.2.1, Y.2.2.2.2.2.2.2.2.2.1, Y.2.2.2.2.2.2.2.2.2.2) pa kp ks I tl ac wr tw) H := hP
        have hD : va_D A (rW g ty (Y.1, Y.2.1, Y.2.2.1, Y.2.2.2.1, Y.2.2.2.2.1, (vp_updL Y.2.2.2.2.2.1 (Y.2.1 (pa a0.toNatClampNeg).toNatClampNeg + 0).toNatClampNeg ((ac.toInt32).toInt64)), Y.2.2.2.2.2.2.1, Y.2.2.2.2.2.2.2.1, Y.2.2.2.2.2.2.2.2.1, Y.2.2.2.2.2.2.2.2.2.1, Y.2.2.2.2.2.2.2.2.2.2) pa kp ks I tl ac wr tw) := hD
        refine lv_iload hx hb dX12_boxes_685 (lv_at hl 0 rfl) ?_
        refine lv_i2l (v := ((P.2.2.1 t).toInt64)) hx hb dX12_boxes_687 rfl ?_
        refine cr_l (wo := fun u : rY × (Nat → Int32) × (Nat → Int32) × (Nat → Int32) × Int32 × Int32 => rW g ty u.1 u.2.1 u.2.2.1 ks I u.2.2.2.1 ac u.2.2.2.2.1 u.2.2.2.2.2) (((Y.1, Y.2.1, Y.2.2.1, Y.2.2.2.1, Y.2.2.2.2.1, (vp_updL Y.2.2.2.2.2.1 (Y.2.1 (pa a0.toNatClampNeg).toNatClampNeg + 0).toNatClampNeg ((ac.toInt32).toInt64)), Y.2.2.2.2.2.2.1, Y.2.2.2.2.2.2.2.1, Y.2.2.2.2.2.2.2.2.1, Y.2.2.2.2.2.2.2.2.2.1, Y.2.2.2.2.2.2.2.2.2.2), pa, kp, tl, wr, tw)) hx hb hr hlk hS hP hD ?_ dX12_boxes_688
        exact ⟨((P.2.2.1 t).toInt64), (Y.1, Y.2.1, Y.2.2.1, Y.2.2.2.1, Y.2.2.2.2.1, (vp_updL Y.2.2.2.2.2.1 (Y.2.1 (pa a0.toNatClampNeg).toNatClampNeg + 0).toNatClampNeg ((ac.toInt32).toInt64)), Y.2.2.2.2.2.2.1, Y.2.2.2.2.2.2.2.1, Y.2.2.2.2.2.2.2.2.1, Y.2.2.2.2.2.2.2.2.2.1, Y.2.2.2.2.2.2.2.2.2.2), pa, kp, tl, wr, tw, rfl, rfl, (by subst pre6; exact ra_w (rw_val rel n1t n2t n3t kt rfl rfl) ⟨rfl, rfl, rfl, rfl⟩ hcnt htl rfl)⟩
set_option maxHeartbeats 800000 in
set_option maxRecDepth 100000 in
theorem c_X12_boxes_17 (l : Launch) (dC : Nat → ClassId) (dI : Nat → Nat → Nat) (g : Nat → Nat) (ty : Nat → ClassId) (sz : Nat) (Y : rY) (pa : Nat → Int32) (kp : Nat → Int32) (ks : Int32) (I : rI) (tl : Nat → Int32) (ac : Int64) (wr : Int32) (tw : Int32) (ρ : Nat → Nat) (pl : Nat → Option Nat) (P : cQ) (md : Int32) (Z : cZ) (rz9 : Int64) (u9 : Int32 × cQ) (a0 : Int32) (b0 : Int32) (c0 : Int32) (pre0 : rR Y.2.2.2.2.2.2.2.2.2.1 Y pa ρ pl P) (pre1 : cWF pl P) (pre2 : ks = 0) (pre3 : rCnt Y md) (pre4 : tl 5 = md) (pre5 : 0 ≤ md ∧ md ≤ 6000) (pre6 : tw = 0) (pre7 : q_X11_linkBox a0 b0 pl ac (-1) md Z P rz9 u9) : Met l yX12_boxes (Cond.code yX12_boxes cX12_boxes 7 (some .long) :: gT) ({ frames := 3, cells := 0, slots := 0, locals := 82 }) (cP (dC, dI) (rTy ty) (rW g ty Y pa kp ks I tl ac wr tw) sz [.ref (g 8), .int 17, .int a0, .int b0, .int c0]) (va_Ql (fun (rz : Int64) (u : rY × (Nat → Int32) × (Nat → Int32) × (Nat → Int32) × Int32 × Int32) => ∃ (r' : Int64) (Y' : rY) (pa' kp' tl' : Nat → Int32) (wr' tw' : Int32), r' = rz ∧ (Y', pa', kp', tl', wr', tw') = u ∧ rAns u9.1 rz9 pl u9.2 md tl Y r' Y' pa' tl' wr' tw') (cB (dC, dI) (fun u : rY × (Nat → Int32) × (Nat → Int32) × (Nat → Int32) × Int32 × Int32 => rW g ty u.1 u.2.1 u.2.2.1 ks I u.2.2.2.1 ac u.2.2.2.2.1 u.2.2.2.2.2) (va_A (rW g ty Y pa kp ks I tl ac wr tw) sz)) (va_A (rW g ty Y pa kp ks I tl ac wr tw) sz)) 0 0 (va_A (rW g ty Y pa kp ks I tl ac wr tw) sz) := by
  refine cc_of (Qa := fun A => va_Ql (fun (rz : Int64) (u : rY × (Nat → Int32) × (Nat → Int32) × (Nat → Int32) × Int32 × Int32) => ∃ (r' : Int64) (Y' : rY) (pa' kp' tl' : Nat → Int32) (wr' tw' : Int32), r' = rz ∧ (Y', pa', kp', tl', wr', tw') = u ∧ rAns u9.1 rz9 pl u9.2 md tl Y r' Y' pa' tl' wr' tw') (cB (dC, dI) (fun u : rY × (Nat → Int32) × (Nat → Int32) × (Nat → Int32) × Int32 × Int32 => rW g ty u.1 u.2.1 u.2.2.1 ks I u.2.2.2.1 ac u.2.2.2.2.1 u.2.2.2.2.2) A) A) (by decide) (Nat.le_of_ble_eq_true rfl) ?_
  intro p e s m below meth c A hx hb hr hml hown hg hlk hmn hP hK hD hT hS hA hsz ls hl
  have hown : s.vm.findClass RX12 = some m.cls := hown
  have rel := pre0
  have wf := pre1
  have hcnt := pre3
  have htl := pre4
  rcases pre7 with ⟨rfl, rfl, g2⟩ | ⟨t, rfl, rfl, g2, g3, g4⟩ | ⟨rfl, rfl, g2, (g3 | ⟨q3, g3, g3x0⟩), g4⟩ | ⟨t, rfl, rfl, g2, (g3 | ⟨q3, g3, g3x0⟩), g4, g5, g6⟩ | ⟨rfl, rfl, g2, g3, g4, (g5 | ⟨q5, g5, g5x0⟩)⟩ | ⟨t, o, rfl, rfl, g2, g3, g4, g5, g6, (rfl | ⟨q7, rfl, g7x0⟩)⟩
  · show _
    have hl : lv_has ls 7 [(0, .ref (g 8)), (1, .int 17), (2, .int a0), (3, .int b0), (4, .int c0)] := hl
    refine lv_iload_n hx hb dX12_boxes_0 rfl (lv_at hl 1 rfl) ?_
    refine lv_tableIn (off := 488) (tgt := 489) hx hb dX12_boxes_1 (by decide) (by decide) (by decide) (by decide) ?_
    refine lv_aload_n hx hb dX12_boxes_489 rfl (lv_at hl 0 rfl) ?_
    refine lv_iload_n hx hb dX12_boxes_490 rfl (lv_at hl 2 rfl) ?_
    refine lv_bipush (v := 12) hx hb dX12_boxes_491 (by decide) ?_
    refine cV_i (C := RX12) (n := 2) (rest := []) hx hb hml hown hg hT (c_X12_thing l dC dI g ty s.heap.size Y pa kp ks I tl ac wr tw ρ pl P a0 12 (by exact rel) (by exact wf) (by exact i32_in (by decide) (by decide))) (cv_of hg wM_X12_131 wN_X12_thing wL_X12_X12_thing wK_X12_thing wI_X12 (by decide +kernel) ⟨Nat.le_of_ble_eq_true rfl, Nat.le_of_ble_eq_true rfl⟩) hK hP hD hS hA (va_recv hK hP (ci := 14) (q0 := 0) rfl rfl) rfl hl.1 rfl (Nat.le_of_ble_eq_true rfl) dX12_boxes_493 ⟨Nat.le_of_ble_eq_true rfl, Nat.le_of_ble_eq_true rfl⟩ (fun r_2 u_3 H locs q_1 hP hD hS => ?_)
    rcases q_1 with ⟨rfl, rfl, f_4⟩ | ⟨t_5, rfl, rfl, f_6, f_7, f_8⟩ | ⟨rfl, rfl, f_9, f_10⟩ | ⟨t_11, rfl, rfl, f_12, f_13, f_14⟩
    · show _
      have hP : va_P (dC, dI) vwCl (rW g ty Y pa kp ks I tl ac 2 tw) H := hP
      have hD : va_D A (rW g ty Y pa kp ks I tl ac 2 tw) := hD
      refine lv_if_eq (tgt := 517) hx hb dX12_boxes_496 (by decide) (fun _ => ?_) (fun c9 => absurd (by decide) c9) 
      refine lv_aload_n hx hb dX12_boxes_517 rfl (lv_at hl 0 rfl) ?_
      refine cV_l (C := RX12) (n := 0) (rest := []) hx hb hml hown hg hT (c_X12_no l dC dI g ty H.size Y pa kp ks I tl ac 2 tw  ) (cv_of hg wM_X12_107 wN_X12_no wL_X12_X12_no wK_X12_no wI_X12 (by decide +kernel) ⟨Nat.le_of_ble_eq_true rfl, Nat.le_of_ble_eq_true rfl⟩) hK hP hD hS hA (va_recv hK hP (ci := 14) (q0 := 0) rfl rfl) rfl hl.1 rfl (Nat.le_of_ble_eq_true rfl) dX12_boxes_518 ⟨Nat.le_of_ble_eq_true rfl, Nat.le_of_ble_eq_true rfl⟩ (fun r_16 u_17 H locs q_15 hP hD hS => ?_)
      obtain ⟨rfl, rfl⟩ := q_15
      have hP : va_P (dC, dI) vwCl (rW g ty Y pa kp ks I tl ac 2 1) H := hP
      have hD : va_D A (rW g ty Y pa kp ks I tl ac 2 1) := hD
      refine cr_l (wo := fun u : rY × (Nat → Int32) × (Nat → Int32) × (Nat → Int32) × Int32 × Int32 => rW g ty u.1 u.2.1 u.2.2.1 ks I u.2.2.2.1 ac u.2.2.2.2.1 u.2.2.2.2.2) ((Y, pa, kp, tl, 2, 1)) hx hb hr hlk hS hP hD ?_ dX12_boxes_521
      exact ⟨0, Y, pa, kp, tl, 2, 1, rfl, rfl, (by exact ra_f (f := 2) rel hcnt htl (by decide))⟩
    · show _
      exact absurd f_6 (by assumption)
    · show _
      exact absurd f_9 (by assumption)
    · show _
      exact absurd f_12 (by assumption)
  · show _
    obtain ⟨n1t, n2t, n3t⟩ := rk_some rel g2 g3
    have hnet := (i32_pos n1t).2.1
    have tht := wf.1 _ _ g3
    have hl : lv_has ls 7 [(0, .ref (g 8)), (1, .int 17), (2, .int a0), (3, .int b0), (4, .int c0)] := hl
    refine lv_iload_n hx hb dX12_boxes_0 rfl (lv_at hl 1 rfl) ?_
    refine lv_tableIn (off := 488) (tgt := 489) hx hb dX12_boxes_1 (by decide) (by decide) (by decide) (by decide) ?_
    refine lv_aload_n hx hb dX12_boxes_489 rfl (lv_at hl 0 rfl) ?_
    refine lv_iload_n hx hb dX12_boxes_490 rfl (lv_at hl 2 rfl) ?_
    refine lv_bipush (v := 12) hx hb dX12_boxes_491 (by decide) ?_
    refine cV_i (C := RX12) (n := 2) (rest := []) hx hb hml hown hg hT (c_X12_thing l dC dI g ty s.heap.size Y pa kp ks I tl ac wr tw ρ pl P a0 12 (by exact rel) (by exact wf) (by exact i32_in (by decide) (by decide))) (cv_of hg wM_X12_131 wN_X12_thing wL_X12_X12_thing wK_X12_thing wI_X12 (by decide +kernel) ⟨Nat.le_of_ble_eq_true rfl, Nat.le_of_ble_eq_true rfl⟩) hK hP hD hS hA (va_recv hK hP (ci := 14) (q0 := 0) rfl rfl) rfl hl.1 rfl (Nat.le_of_ble_eq_true rfl) dX12_boxes_493 ⟨Nat.le_of_ble_eq_true rfl, Nat.le_of_ble_eq_true rfl⟩ (fun r_19 u_20 H locs q_18 hP hD hS => ?_)
    rcases q_18 with ⟨rfl, rfl, f_21⟩ | ⟨t_22, rfl, rfl, f_23, f_24, f_25⟩ | ⟨rfl, rfl, f_26, f_27⟩ | ⟨t_28, rfl, rfl, f_29, f_30, f_31⟩
    · show _
      exact absurd (by assumption) f_21
    · show _
      obtain rfl := Option.some.inj (g3.symm.trans f_24)
      have hP : va_P (dC, dI) vwCl (rW g ty Y pa kp ks I tl ac 3 tw) H := hP
      have hD : va_D A (rW g ty Y pa kp ks I tl ac 3 tw) := hD
      refine lv_if_eq (tgt := 517) hx hb dX12_boxes_496 (by decide) (fun _ => ?_) (fun c9 => absurd (by decide) c9) 
      refine lv_aload_n hx hb dX12_boxes_517 rfl (lv_at hl 0 rfl) ?_
      refine cV_l (C := RX12) (n := 0) (rest := []) hx hb hml hown hg hT (c_X12_no l dC dI g ty H.size Y pa kp ks I tl ac 3 tw  ) (cv_of hg wM_X12_107 wN_X12_no wL_X12_X12_no wK_X12_no wI_X12 (by decide +kernel) ⟨Nat.le_of_ble_eq_true rfl, Nat.le_of_ble_eq_true rfl⟩) hK hP hD hS hA (va_recv hK hP (ci := 14) (q0 := 0) rfl rfl) rfl hl.1 rfl (Nat.le_of_ble_eq_true rfl) dX12_boxes_518 ⟨Nat.le_of_ble_eq_true rfl, Nat.le_of_ble_eq_true rfl⟩ (fun r_33 u_34 H locs q_32 hP hD hS => ?_)
      obtain ⟨rfl, rfl⟩ := q_32
      have hP : va_P (dC, dI) vwCl (rW g ty Y pa kp ks I tl ac 3 1) H := hP
      have hD : va_D A (rW g ty Y pa kp ks I tl ac 3 1) := hD
      refine cr_l (wo := fun u : rY × (Nat → Int32) × (Nat → Int32) × (Nat → Int32) × Int32 × Int32 => rW g ty u.1 u.2.1 u.2.2.1 ks I u.2.2.2.1 ac u.2.2.2.2.1 u.2.2.2.2.2) ((Y, pa, kp, tl, 3, 1)) hx hb hr hlk hS hP hD ?_ dX12_boxes_521
      exact ⟨0, Y, pa, kp, tl, 3, 1, rfl, rfl, (by exact ra_f (f := 3) rel hcnt htl (by decide))⟩
    · show _
      exact absurd (g3.symm.trans f_27) (by simp)
    · show _
      obtain rfl := Option.some.inj (g3.symm.trans f_30); exact absurd (g4.symm.trans f_31) (by decide)
  · show _
    have hza0 := rk_none rel g2 g3
    have hl : lv_has ls 7 [(0, .ref (g 8)), (1, .int 17), (2, .int a0), (3, .int b0), (4, .int c0)] := hl
    refine lv_iload_n hx hb dX12_boxes_0 rfl (lv_at hl 1 rfl) ?_
    refine lv_tableIn (off := 488) (tgt := 489) hx hb dX12_boxes_1 (by decide) (by decide) (by decide) (by decide) ?_
    refine lv_aload_n hx hb dX12_boxes_489 rfl (lv_at hl 0 rfl) ?_
    refine lv_iload_n hx hb dX12_boxes_490 rfl (lv_at hl 2 rfl) ?_
    refine lv_bipush (v := 12) hx hb dX12_boxes_491 (by decide) ?_
    refine cV_i (C := RX12) (n := 2) (rest := []) hx hb hml hown hg hT (c_X12_thing l dC dI g ty s.heap.size Y pa kp ks I tl ac wr tw ρ pl P a0 12 (by exact rel) (by exact wf) (by exact i32_in (by decide) (by decide))) (cv_of hg wM_X12_131 wN_X12_thing wL_X12_X12_thing wK_X12_thing wI_X12 (by decide +kernel) ⟨Nat.le_of_ble_eq_true rfl, Nat.le_of_ble_eq_true rfl⟩) hK hP hD hS hA (va_recv hK hP (ci := 14) (q0 := 0) rfl rfl) rfl hl.1 rfl (Nat.le_of_ble_eq_true rfl) dX12_boxes_493 ⟨Nat.le_of_ble_eq_true rfl, Nat.le_of_ble_eq_true rfl⟩ (fun r_36 u_37 H locs q_35 hP hD hS => ?_)
    rcases q_35 with ⟨rfl, rfl, f_38⟩ | ⟨t_39, rfl, rfl, f_40, f_41, f_42⟩ | ⟨rfl, rfl, f_43, f_44⟩ | ⟨t_45, rfl, rfl, f_46, f_47, f_48⟩
    · show _
      exact absurd (by assumption) f_38
    · show _
      exact absurd (g3.symm.trans f_41) (by simp)
    · show _
      have hP : va_P (dC, dI) vwCl (rW g ty Y pa kp ks I tl ac wr tw) H := hP
      have hD : va_D A (rW g ty Y pa kp ks I tl ac wr tw) := hD
      refine lv_if_eq (tgt := 517) hx hb dX12_boxes_496 (by decide) (fun c9 => absurd c9 (by decide)) (fun _ => ?_)
      refine lv_aload_n hx hb dX12_boxes_499 rfl (lv_at hl 0 rfl) ?_
      refine lv_iload_n hx hb dX12_boxes_500 rfl (lv_at hl 3 rfl) ?_
      refine lv_bipush (v := 12) hx hb dX12_boxes_501 (by decide) ?_
      refine cV_i (C := RX12) (n := 2) (rest := []) hx hb hml hown hg hT (c_X12_thing l dC dI g ty H.size Y pa kp ks I tl ac wr tw ρ pl P b0 12 (by exact rel) (by exact wf) (by exact i32_in (by decide) (by decide))) (cv_of hg wM_X12_131 wN_X12_thing wL_X12_X12_thing wK_X12_thing wI_X12 (by decide +kernel) ⟨Nat.le_of_ble_eq_true rfl, Nat.le_of_ble_eq_true rfl⟩) hK hP hD hS hA (va_recv hK hP (ci := 14) (q0 := 0) rfl rfl) rfl hl.1 rfl (Nat.le_of_ble_eq_true rfl) dX12_boxes_503 ⟨Nat.le_of_ble_eq_true rfl, Nat.le_of_ble_eq_true rfl⟩ (fun r_50 u_51 H locs q_49 hP hD hS => ?_)
      rcases q_49 with ⟨rfl, rfl, f_52⟩ | ⟨t_53, rfl, rfl, f_54, f_55, f_56⟩ | ⟨rfl, rfl, f_57, f_58⟩ | ⟨t_59, rfl, rfl, f_60, f_61, f_62⟩
      · show _
        have hP : va_P (dC, dI) vwCl (rW g ty Y pa kp ks I tl ac 2 tw) H := hP
        have hD : va_D A (rW g ty Y pa kp ks I tl ac 2 tw) := hD
        refine lv_if_eq (tgt := 517) hx hb dX12_boxes_506 (by decide) (fun _ => ?_) (fun c9 => absurd (by decide) c9) 
        refine lv_aload_n hx hb dX12_boxes_517 rfl (lv_at hl 0 rfl) ?_
        refine cV_l (C := RX12) (n := 0) (rest := []) hx hb hml hown hg hT (c_X12_no l dC dI g ty H.size Y pa kp ks I tl ac 2 tw  ) (cv_of hg wM_X12_107 wN_X12_no wL_X12_X12_no wK_X12_no wI_X12 (by decide +kernel) ⟨Nat.le_of_ble_eq_true rfl, Nat.le_of_ble_eq_true rfl⟩) hK hP hD hS hA (va_recv hK hP (ci := 14) (q0 := 0) rfl rfl) rfl hl.1 rfl (Nat.le_of_ble_eq_true rfl) dX12_boxes_518 ⟨Nat.le_of_ble_eq_true rfl, Nat.le_of_ble_eq_true rfl⟩ (fun r_64 u_65 H locs q_63 hP hD hS => ?_)
        obtain ⟨rfl, rfl⟩ := q_63
        have hP : va_P (dC, dI) vwCl (rW g ty Y pa kp ks I tl ac 2 1) H := hP
        have hD : va_D A (rW g ty Y pa kp ks I tl ac 2 1) := hD
        refine cr_l (wo := fun u : rY × (Nat → Int32) × (Nat → Int32) × (Nat → Int32) × Int32 × Int32 => rW g ty u.1 u.2.1 u.2.2.1 ks I u.2.2.2.1 ac u.2.2.2.2.1 u.2.2.2.2.2) ((Y, pa, kp, tl, 2, 1)) hx hb hr hlk hS hP hD ?_ dX12_boxes_521
        exact ⟨0, Y, pa, kp, tl, 2, 1, rfl, rfl, (by exact ra_f (f := 2) rel hcnt htl (by decide))⟩
      · show _
        exact absurd f_54 (by assumption)
      · show _
        exact absurd f_57 (by assumption)
      · show _
        exact absurd f_60 (by assumption)
    · show _
      exact absurd (g3.symm.trans f_47) (by simp)
  · show _
    obtain ⟨n1q3, n2q3, n3q3⟩ := rk_some rel g2 g3
    have hneq3 := (i32_pos n1q3).2.1
    have thq3 := wf.1 _ _ g3
    have kq3 := cIs_2 (ki_12 wf thq3.1 thq3.2 g3x0)
    have hvq3 := rv_box rel n1q3 n2q3 n3q3 (by omega)
    have hl : lv_has ls 7 [(0, .ref (g 8)), (1, .int 17), (2, .int a0), (3, .int b0), (4, .int c0)] := hl
    refine lv_iload_n hx hb dX12_boxes_0 rfl (lv_at hl 1 rfl) ?_
    refine lv_tableIn (off := 488) (tgt := 489) hx hb dX12_boxes_1 (by decide) (by decide) (by decide) (by decide) ?_
    refine lv_aload_n hx hb dX12_boxes_489 rfl (lv_at hl 0 rfl) ?_
    refine lv_iload_n hx hb dX12_boxes_490 rfl (lv_at hl 2 rfl) ?_
    refine lv_bipush (v := 12) hx hb dX12_boxes_491 (by decide) ?_
    refine cV_i (C := RX12) (n := 2) (rest := []) hx hb hml hown hg hT (c_X12_thing l dC dI g ty s.heap.size Y pa kp ks I tl ac wr tw ρ pl P a0 12 (by exact rel) (by exact wf) (by exact i32_in (by decide) (by decide))) (cv_of hg wM_X12_131 wN_X12_thing wL_X12_X12_thing wK_X12_thing wI_X12 (by decide +kernel) ⟨Nat.le_of_ble_eq_true rfl, Nat.le_of_ble_eq_true rfl⟩) hK hP hD hS hA (va_recv hK hP (ci := 14) (q0 := 0) rfl rfl) rfl hl.1 rfl (Nat.le_of_ble_eq_true rfl) dX12_boxes_493 ⟨Nat.le_of_ble_eq_true rfl, Nat.le_of_ble_eq_true rfl⟩ (fun r_67 u_68 H locs q_66 hP hD hS => ?_)
    rcases q_66 with ⟨rfl, rfl, f_69⟩ | ⟨t_70, rfl, rfl, f_71, f_72, f_73⟩ | ⟨rfl, rfl, f_74, f_75⟩ | ⟨t_76, rfl, rfl, f_77, f_78, f_79⟩
    · show _
      exact absurd (by assumption) f_69
    · show _
      obtain rfl := Option.some.inj (g3.symm.trans f_72); exact absurd (g3x0.symm.trans f_73) (by decide)
    · show _
      exact absurd (g3.symm.trans f_75) (by simp)
    · show _
      obtain rfl := Option.some.inj (g3.symm.trans f_78)
      have hP : va_P (dC, dI) vwCl (rW g ty Y pa kp ks I tl ac wr tw) H := hP
      have hD : va_D A (rW g ty Y pa kp ks I tl ac wr tw) := hD
      refine lv_if_eq (tgt := 517) hx hb dX12_boxes_496 (by decide) (fun c9 => absurd c9 (by decide)) (fun _ => ?_)
      refine lv_aload_n hx hb dX12_boxes_499 rfl (lv_at hl 0 rfl) ?_
      refine lv_iload_n hx hb dX12_boxes_500 rfl (lv_at hl 3 rfl) ?_
      refine lv_bipush (v := 12) hx hb dX12_boxes_501 (by decide) ?_
      refine cV_i (C := RX12) (n := 2) (rest := []) hx hb hml hown hg hT (c_X12_thing l dC dI g ty H.size Y pa kp ks I tl ac wr tw ρ pl P b0 12 (by exact rel) (by exact wf) (by exact i32_in (by decide) (by decide))) (cv_of hg wM_X12_131 wN_X12_thing wL_X12_X12_thing wK_X12_thing wI_X12 (by decide +kernel) ⟨Nat.le_of_ble_eq_true rfl, Nat.le_of_ble_eq_true rfl⟩) hK hP hD hS hA (va_recv hK hP (ci := 14) (q0 := 0) rfl rfl) rfl hl.1 rfl (Nat.le_of_ble_eq_true rfl) dX12_boxes_503 ⟨Nat.le_of_ble_eq_true rfl, Nat.le_of_ble_eq_true rfl⟩ (fun r_81 u_82 H locs q_80 hP hD hS => ?_)
      rcases q_80 with ⟨rfl, rfl, f_83⟩ | ⟨t_84, rfl, rfl, f_85, f_86, f_87⟩ | ⟨rfl, rfl, f_88, f_89⟩ | ⟨t_90, rfl, rfl, f_91, f_92, f_93⟩
      · show _
        have hP : va_P (dC, dI) vwCl (rW g ty Y pa kp ks I tl ac 2 tw) H := hP
        have hD : va_D A (rW g ty Y pa kp ks I tl ac 2 tw) := hD
        refine lv_if_eq (tgt := 517) hx hb dX12_boxes_506 (by decide) (fun _ => ?_) (fun c9 => absurd (by decide) c9) 
        refine lv_aload_n hx hb dX12_boxes_517 rfl (lv_at hl 0 rfl) ?_
        refine cV_l (C := RX12) (n := 0) (rest := []) hx hb hml hown hg hT (c_X12_no l dC dI g ty H.size Y pa kp ks I tl ac 2 tw  ) (cv_of hg wM_X12_107 wN_X12_no wL_X12_X12_no wK_X12_no wI_X12 (by decide +kernel) ⟨Nat.le_of_ble_eq_true rfl, Nat.le_of_ble_eq_true rfl⟩) hK hP hD hS hA (va_recv hK hP (ci := 14) (q0 := 0) rfl rfl) rfl hl.1 rfl (Nat.le_of_ble_eq_true rfl) dX12_boxes_518 ⟨Nat.le_of_ble_eq_true rfl, Nat.le_of_ble_eq_true rfl⟩ (fun r_95 u_96 H locs q_94 hP hD hS => ?_)
        obtain ⟨rfl, rfl⟩ := q_94
        have hP : va_P (dC, dI) vwCl (rW g ty Y pa kp ks I tl ac 2 1) H := hP
        have hD : va_D A (rW g ty Y pa kp ks I tl ac 2 1) := hD
        refine cr_l (wo := fun u : rY × (Nat → Int32) × (Nat → Int32) × (Nat → Int32) × Int32 × Int32 => rW g ty u.1 u.2.1 u.2.2.1 ks I u.2.2.2.1 ac u.2.2.2.2.1 u.2.2.2.2.2) ((Y, pa, kp, tl, 2, 1)) hx hb hr hlk hS hP hD ?_ dX12_boxes_521
        exact ⟨0, Y, pa, kp, tl, 2, 1, rfl, rfl, (by exact ra_f (f := 2) rel hcnt htl (by decide))⟩
      · show _
        exact absurd f_85 (by assumption)
      · show _
        exact absurd f_88 (by assumption)
      · show _
        exact absurd f_91 (by assumption)
  · show _
    have hza0 := rk_none rel g2 g3
    obtain ⟨n1t, n2t, n3t⟩ := rk_some rel g4 g5
    have hnet := (i32_pos n1t).2.1
    have tht := wf.1 _ _ g5
    have hl : lv_has ls 7 [(0, .ref (g 8)), (1, .int 17), (2, .int a0), (3, .int b0), (4, .int c0)] := hl
    refine lv_iload_n hx hb dX12_boxes_0 rfl (lv_at hl 1 rfl) ?_
    refine lv_tableIn (off := 488) (tgt := 489) hx hb dX12_boxes_1 (by decide) (by decide) (by decide) (by decide) ?_
    refine lv_aload_n hx hb dX12_boxes_489 rfl (lv_at hl 0 rfl) ?_
    refine lv_iload_n hx hb dX12_boxes_490 rfl (lv_at hl 2 rfl) ?_
    refine lv_bipush (v := 12) hx hb dX12_boxes_491 (by decide) ?_
    refine cV_i (C := RX12) (n := 2) (rest := []) hx hb hml hown hg hT (c_X12_thing l dC dI g ty s.heap.size Y pa kp ks I tl ac wr tw ρ pl P a0 12 (by exact rel) (by exact wf) (by exact i32_in (by decide) (by decide))) (cv_of hg wM_X12_131 wN_X12_thing wL_X12_X12_thing wK_X12_thing wI_X12 (by decide +kernel) ⟨Nat.le_of_ble_eq_true rfl, Nat.le_of_ble_eq_true rfl⟩) hK hP hD hS hA (va_recv hK hP (ci := 14) (q0 := 0) rfl rfl) rfl hl.1 rfl (Nat.le_of_ble_eq_true rfl) dX12_boxes_493 ⟨Nat.le_of_ble_eq_true rfl, Nat.le_of_ble_eq_true rfl⟩ (fun r_98 u_99 H locs q_97 hP hD hS => ?_)
    rcases q_97 with ⟨rfl, rfl, f_100⟩ | ⟨t_101, rfl, rfl, f_102, f_103, f_104⟩ | ⟨rfl, rfl, f_105, f_106⟩ | ⟨t_107, rfl, rfl, f_108, f_109, f_110⟩
    · show _
      exact absurd (by assumption) f_100
    · show _
      exact absurd (g3.symm.trans f_103) (by simp)
    · show _
      have hP : va_P (dC, dI) vwCl (rW g ty Y pa kp ks I tl ac wr tw) H := hP
      have hD : va_D A (rW g ty Y pa kp ks I tl ac wr tw) := hD
      refine lv_if_eq (tgt := 517) hx hb dX12_boxes_496 (by decide) (fun c9 => absurd c9 (by decide)) (fun _ => ?_)
      refine lv_aload_n hx hb dX12_boxes_499 rfl (lv_at hl 0 rfl) ?_
      refine lv_iload_n hx hb dX12_boxes_500 rfl (lv_at hl 3 rfl) ?_
      refine lv_bipush (v := 12) hx hb dX12_boxes_501 (by decide) ?_
      refine cV_i (C := RX12) (n := 2) (rest := []) hx hb hml hown hg hT (c_X12_thing l dC dI g ty H.size Y pa kp ks I tl ac wr tw ρ pl P b0 12 (by exact rel) (by exact wf) (by exact i32_in (by decide) (by decide))) (cv_of hg wM_X12_131 wN_X12_thing wL_X12_X12_thing wK_X12_thing wI_X12 (by decide +kernel) ⟨Nat.le_of_ble_eq_true rfl, Nat.le_of_ble_eq_true rfl⟩) hK hP hD hS hA (va_recv hK hP (ci := 14) (q0 := 0) rfl rfl) rfl hl.1 rfl (Nat.le_of_ble_eq_true rfl) dX12_boxes_503 ⟨Nat.le_of_ble_eq_true rfl, Nat.le_of_ble_eq_true rfl⟩ (fun r_112 u_113 H locs q_111 hP hD hS => ?_)
      rcases q_111 with ⟨rfl, rfl, f_114⟩ | ⟨t_115, rfl, rfl, f_116, f_117, f_118⟩ | ⟨rfl, rfl, f_119, f_120⟩ | ⟨t_121, rfl, rfl, f_122, f_123, f_124⟩
      · show _
        exact absurd (by assumption) f_114
      · show _
        obtain rfl := Option.some.inj (g5.symm.trans f_117)
        have hP : va_P (dC, dI) vwCl (rW g ty Y pa kp ks I tl ac 3 tw) H := hP
        have hD : va_D A (rW g ty Y pa kp ks I tl ac 3 tw) := hD
        refine lv_if_eq (tgt := 517) hx hb dX12_boxes_506 (by decide) (fun _ => ?_) (fun c9 => absurd (by decide) c9) 
        refine lv_aload_n hx hb dX12_boxes_517 rfl (lv_at hl 0 rfl) ?_
        refine cV_l (C := RX12) (n := 0) (rest := []) hx hb hml hown hg hT (c_X12_no l dC dI g ty H.size Y pa kp ks I tl ac 3 tw  ) (cv_of hg wM_X12_107 wN_X12_no wL_X12_X12_no wK_X12_no wI_X12 (by decide +kernel) ⟨Nat.le_of_ble_eq_true rfl, Nat.le_of_ble_eq_true rfl⟩) hK hP hD hS hA (va_recv hK hP (ci := 14) (q0 := 0) rfl rfl) rfl hl.1 rfl (Nat.le_of_ble_eq_true rfl) dX12_boxes_518 ⟨Nat.le_of_ble_eq_true rfl, Nat.le_of_ble_eq_true rfl⟩ (fun r_126 u_127 H locs q_125 hP hD hS => ?_)
        obtain ⟨rfl, rfl⟩ := q_125
        have hP : va_P (dC, dI) vwCl (rW g ty Y pa kp ks I tl ac 3 1) H := hP
        have hD : va_D A (rW g ty Y pa kp ks I tl ac 3 1) := hD
        refine cr_l (wo := fun u : rY × (Nat → Int32) × (Nat → Int32) × (Nat → Int32) × Int32 × Int32 => rW g ty u.1 u.2.1 u.2.2.1 ks I u.2.2.2.1 ac u.2.2.2.2.1 u.2.2.2.2.2) ((Y, pa, kp, tl, 3, 1)) hx hb hr hlk hS hP hD ?_ dX12_boxes_521
        exact ⟨0, Y, pa, kp, tl, 3, 1, rfl, rfl, (by exact ra_f (f := 3) rel hcnt htl (by decide))⟩
      · show _
        exact absurd (g5.symm.trans f_120) (by simp)
      · show _
        obtain rfl := Option.some.inj (g5.symm.trans f_123); exact absurd (g6.symm.trans f_124) (by decide)
    · show _
      exact absurd (g3.symm.trans f_109) (by simp)
  · show _
    obtain ⟨n1q3, n2q3, n3q3⟩ := rk_some rel g2 g3
    have hneq3 := (i32_pos n1q3).2.1
    have thq3 := wf.1 _ _ g3
    obtain ⟨n1t, n2t, n3t⟩ := rk_some rel g4 g5
    have hnet := (i32_pos n1t).2.1
    have tht := wf.1 _ _ g5
    have kq3 := cIs_2 (ki_12 wf thq3.1 thq3.2 g3x0)
    have hvq3 := rv_box rel n1q3 n2q3 n3q3 (by omega)
    have hl : lv_has ls 7 [(0, .ref (g 8)), (1, .int 17), (2, .int a0), (3, .int b0), (4, .int c0)] := hl
    refine lv_iload_n hx hb dX12_boxes_0 rfl (lv_at hl 1 rfl) ?_
    refine lv_tableIn (off := 488) (tgt := 489) hx hb dX12_boxes_1 (by decide) (by decide) (by decide) (by decide) ?_
    refine lv_aload_n hx hb dX12_boxes_489 rfl (lv_at hl 0 rfl) ?_
    refine lv_iload_n hx hb dX12_boxes_490 rfl (lv_at hl 2 rfl) ?_
    refine lv_bipush (v := 12) hx hb dX12_boxes_491 (by decide) ?_
    refine cV_i (C := RX12) (n := 2) (rest := []) hx hb hml hown hg hT (c_X12_thing l dC dI g ty s.heap.size Y pa kp ks I tl ac wr tw ρ pl P a0 12 (by exact rel) (by exact wf) (by exact i32_in (by decide) (by decide))) (cv_of hg wM_X12_131 wN_X12_thing wL_X12_X12_thing wK_X12_thing wI_X12 (by decide +kernel) ⟨Nat.le_of_ble_eq_true rfl, Nat.le_of_ble_eq_true rfl⟩) hK hP hD hS hA (va_recv hK hP (ci := 14) (q0 := 0) rfl rfl) rfl hl.1 rfl (Nat.le_of_ble_eq_true rfl) dX12_boxes_493 ⟨Nat.le_of_ble_eq_true rfl, Nat.le_of_ble_eq_true rfl⟩ (fun r_129 u_130 H locs q_128 hP hD hS => ?_)
    rcases q_128 with ⟨rfl, rfl, f_131⟩ | ⟨t_132, rfl, rfl, f_133, f_134, f_135⟩ | ⟨rfl, rfl, f_136, f_137⟩ | ⟨t_138, rfl, rfl, f_139, f_140, f_141⟩
    · show _
      exact absurd (by assumption) f_131
    · show _
      obtain rfl := Option.some.inj (g3.symm.trans f_134); exact absurd (g3x0.symm.trans f_135) (by decide)
    · show _
      exact absurd (g3.symm.trans f_137) (by simp)
    · show _
      obtain rfl := Option.some.inj (g3.symm.trans f_140)
      have hP : va_P (dC, dI) vwCl (rW g ty Y pa kp ks I tl ac wr tw) H := hP
      have hD : va_D A (rW g ty Y pa kp ks I tl ac wr tw) := hD
      refine lv_if_eq (tgt := 517) hx hb dX12_boxes_496 (by decide) (fun c9 => absurd c9 (by decide)) (fun _ => ?_)
      refine lv_aload_n hx hb dX12_boxes_499 rfl (lv_at hl 0 rfl) ?_
      refine lv_iload_n hx hb dX12_boxes_500 rfl (lv_at hl 3 rfl) ?_
      refine lv_bipush (v := 12) hx hb dX12_boxes_501 (by decide) ?_
      refine cV_i (C := RX12) (n := 2) (rest := []) hx hb hml hown hg hT (c_X12_thing l dC dI g ty H.size Y pa kp ks I tl ac wr tw ρ pl P b0 12 (by exact rel) (by exact wf) (by exact i32_in (by decide) (by decide))) (cv_of hg wM_X12_131 wN_X12_thing wL_X12_X12_thing wK_X12_thing wI_X12 (by decide +kernel) ⟨Nat.le_of_ble_eq_true rfl, Nat.le_of_ble_eq_true rfl⟩) hK hP hD hS hA (va_recv hK hP (ci := 14) (q0 := 0) rfl rfl) rfl hl.1 rfl (Nat.le_of_ble_eq_true rfl) dX12_boxes_503 ⟨Nat.le_of_ble_eq_true rfl, Nat.le_of_ble_eq_true rfl⟩ (fun r_143 u_144 H locs q_142 hP hD hS => ?_)
      rcases q_142 with ⟨rfl, rfl, f_145⟩ | ⟨t_146, rfl, rfl, f_147, f_148, f_149⟩ | ⟨rfl, rfl, f_150, f_151⟩ | ⟨t_152, rfl, rfl, f_153, f_154, f_155⟩
      · show _
        exact absurd (by assumption) f_145
      · show _
        obtain rfl := Option.some.inj (g5.symm.trans f_148)
        have hP : va_P (dC, dI) vwCl (rW g ty Y pa kp ks I tl ac 3 tw) H := hP
        have hD : va_D A (rW g ty Y pa kp ks I tl ac 3 tw) := hD
        refine lv_if_eq (tgt := 517) hx hb dX12_boxes_506 (by decide) (fun _ => ?_) (fun c9 => absurd (by decide) c9) 
        refine lv_aload_n hx hb dX12_boxes_517 rfl (lv_at hl 0 rfl) ?_
        refine cV_l (C := RX12) (n := 0) (rest := []) hx hb hml hown hg hT (c_X12_no l dC dI g ty H.size Y pa kp ks I tl ac 3 tw  ) (cv_of hg wM_X12_107 wN_X12_no wL_X12_X12_no wK_X12_no wI_X12 (by decide +kernel) ⟨Nat.le_of_ble_eq_true rfl, Nat.le_of_ble_eq_true rfl⟩) hK hP hD hS hA (va_recv hK hP (ci := 14) (q0 := 0) rfl rfl) rfl hl.1 rfl (Nat.le_of_ble_eq_true rfl) dX12_boxes_518 ⟨Nat.le_of_ble_eq_true rfl, Nat.le_of_ble_eq_true rfl⟩ (fun r_157 u_158 H locs q_156 hP hD hS => ?_)
        obtain ⟨rfl, rfl⟩ := q_156
        have hP : va_P (dC, dI) vwCl (rW g ty Y pa kp ks I tl ac 3 1) H := hP
        have hD : va_D A (rW g ty Y pa kp ks I tl ac 3 1) := hD
        refine cr_l (wo := fun u : rY × (Nat → Int32) × (Nat → Int32) × (Nat → Int32) × Int32 × Int32 => rW g ty u.1 u.2.1 u.2.2.1 ks I u.2.2.2.1 ac u.2.2.2.2.1 u.2.2.2.2.2) ((Y, pa, kp, tl, 3, 1)) hx hb hr hlk hS hP hD ?_ dX12_boxes_521
        exact ⟨0, Y, pa, kp, tl, 3, 1, rfl, rfl, (by exact ra_f (f := 3) rel hcnt htl (by decide))⟩
      · show _
        exact absurd (g5.symm.trans f_151) (by simp)
      · show _
        obtain rfl := Option.some.inj (g5.symm.trans f_154); exact absurd (g6.symm.trans f_155) (by decide)
  · show _
    have hza0 := rk_none rel g2 g3
    have hzb0 := rk_none rel g4 g5
    have hl : lv_has ls 7 [(0, .ref (g 8)), (1, .int 17), (2, .int a0), (3, .int b0), (4, .int c0)] := hl
    refine lv_iload_n hx hb dX12_boxes_0 rfl (lv_at hl 1 rfl) ?_
    refine lv_tableIn (off := 488) (tgt := 489) hx hb dX12_boxes_1 (by decide) (by decide) (by decide) (by decide) ?_
    refine lv_aload_n hx hb dX12_boxes_489 rfl (lv_at hl 0 rfl) ?_
    refine lv_iload_n hx hb dX12_boxes_490 rfl (lv_at hl 2 rfl) ?_
    refine lv_bipush (v := 12) hx hb dX12_boxes_491 (by decide) ?_
    refine cV_i (C := RX12) (n := 2) (rest := []) hx hb hml hown hg hT (c_X12_thing l dC dI g ty s.heap.size Y pa kp ks I tl ac wr tw ρ pl P a0 12 (by exact rel) (by exact wf) (by exact i32_in (by decide) (by decide))) (cv_of hg wM_X12_131 wN_X12_thing wL_X12_X12_thing wK_X12_thing wI_X12 (by decide +kernel) ⟨Nat.le_of_ble_eq_true rfl, Nat.le_of_ble_eq_true rfl⟩) hK hP hD hS hA (va_recv hK hP (ci := 14) (q0 := 0) rfl rfl) rfl hl.1 rfl (Nat.le_of_ble_eq_true rfl) dX12_boxes_493 ⟨Nat.le_of_ble_eq_true rfl, Nat.le_of_ble_eq_true rfl⟩ (fun r_160 u_161 H locs q_159 hP hD hS => ?_)
    rcases q_159 with ⟨rfl, rfl, f_162⟩ | ⟨t_163, rfl, rfl, f_164, f_165, f_166⟩ | ⟨rfl, rfl, f_167, f_168⟩ | ⟨t_169, rfl, rfl, f_170, f_171, f_172⟩
    · show _
      exact absurd (by assumption) f_162
    · show _
      exact absurd (g3.symm.trans f_165) (by simp)
    · show _
      have hP : va_P (dC, dI) vwCl (rW g ty Y pa kp ks I tl ac wr tw) H := hP
      have hD : va_D A (rW g ty Y pa kp ks I tl ac wr tw) := hD
      refine lv_if_eq (tgt := 517) hx hb dX12_boxes_496 (by decide) (fun c9 => absurd c9 (by decide)) (fun _ => ?_)
      refine lv_aload_n hx hb dX12_boxes_499 rfl (lv_at hl 0 rfl) ?_
      refine lv_iload_n hx hb dX12_boxes_500 rfl (lv_at hl 3 rfl) ?_
      refine lv_bipush (v := 12) hx hb dX12_boxes_501 (by decide) ?_
      refine cV_i (C := RX12) (n := 2) (rest := []) hx hb hml hown hg hT (c_X12_thing l dC dI g ty H.size Y pa kp ks I tl ac wr tw ρ pl P b0 12 (by exact rel) (by exact wf) (by exact i32_in (by decide) (by decide))) (cv_of hg wM_X12_131 wN_X12_thing wL_X12_X12_thing wK_X12_thing wI_X12 (by decide +kernel) ⟨Nat.le_of_ble_eq_true rfl, Nat.le_of_ble_eq_true rfl⟩) hK hP hD hS hA (va_recv hK hP (ci := 14) (q0 := 0) rfl rfl) rfl hl.1 rfl (Nat.le_of_ble_eq_true rfl) dX12_boxes_503 ⟨Nat.le_of_ble_eq_true rfl, Nat.le_of_ble_eq_true rfl⟩ (fun r_174 u_175 H locs q_173 hP hD hS => ?_)
      rcases q_173 with ⟨rfl, rfl, f_176⟩ | ⟨t_177, rfl, rfl, f_178, f_179, f_180⟩ | ⟨rfl, rfl, f_181, f_182⟩ | ⟨t_183, rfl, rfl, f_184, f_185, f_186⟩
      · show _
        exact absurd (by assumption) f_176
      · show _
        exact absurd (g5.symm.trans f_179) (by simp)
      · show _
        have hP : va_P (dC, dI) vwCl (rW g ty Y pa kp ks I tl ac wr tw) H := hP
        have hD : va_D A (rW g ty Y pa kp ks I tl ac wr tw) := hD
        refine lv_if_eq (tgt := 517) hx hb dX12_boxes_506 (by decide) (fun c9 => absurd c9 (by decide)) (fun _ => ?_)
        refine lv_aload_n hx hb dX12_boxes_509 rfl (lv_at hl 0 rfl) ?_
        refine lv_iload_n hx hb dX12_boxes_510 rfl (lv_at hl 2 rfl) ?_
        refine cV_i (C := RX12) (n := 1) (rest := []) hx hb hml hown hg hT (c_X12_need l dC dI g ty H.size Y pa kp ks I tl ac wr tw a0 (by assumption)) (cv_of hg wM_X12_134 wN_X12_need wL_X12_X12_need wK_X12_need wI_X12 (by decide +kernel) ⟨Nat.le_of_ble_eq_true rfl, Nat.le_of_ble_eq_true rfl⟩) hK hP hD hS hA (va_recv hK hP (ci := 14) (q0 := 0) rfl rfl) rfl hl.1 rfl (Nat.le_of_ble_eq_true rfl) dX12_boxes_511 ⟨Nat.le_of_ble_eq_true rfl, Nat.le_of_ble_eq_true rfl⟩ (fun r_188 u_189 H locs q_187 hP hD hS => ?_)
        rcases q_187 with ⟨rfl, rfl, f_190⟩ | ⟨rfl, rfl, f_191⟩
        · show _
          have hP : va_P (dC, dI) vwCl (rW g ty Y pa kp ks I tl ac 1 tw) H := hP
          have hD : va_D A (rW g ty Y pa kp ks I tl ac 1 tw) := hD
          refine lv_if_ne (tgt := 522) hx hb dX12_boxes_514 (by decide) (fun c9 => absurd (by decide) c9) (fun _ => ?_)
          refine lv_aload_n hx hb dX12_boxes_517 rfl (lv_at hl 0 rfl) ?_
          refine cV_l (C := RX12) (n := 0) (rest := []) hx hb hml hown hg hT (c_X12_no l dC dI g ty H.size Y pa kp ks I tl ac 1 tw  ) (cv_of hg wM_X12_107 wN_X12_no wL_X12_X12_no wK_X12_no wI_X12 (by decide +kernel) ⟨Nat.le_of_ble_eq_true rfl, Nat.le_of_ble_eq_true rfl⟩) hK hP hD hS hA (va_recv hK hP (ci := 14) (q0 := 0) rfl rfl) rfl hl.1 rfl (Nat.le_of_ble_eq_true rfl) dX12_boxes_518 ⟨Nat.le_of_ble_eq_true rfl, Nat.le_of_ble_eq_true rfl⟩ (fun r_193 u_194 H locs q_192 hP hD hS => ?_)
          obtain ⟨rfl, rfl⟩ := q_192
          have hP : va_P (dC, dI) vwCl (rW g ty Y pa kp ks I tl ac 1 1) H := hP
          have hD : va_D A (rW g ty Y pa kp ks I tl ac 1 1) := hD
          refine cr_l (wo := fun u : rY × (Nat → Int32) × (Nat → Int32) × (Nat → Int32) × Int32 × Int32 => rW g ty u.1 u.2.1 u.2.2.1 ks I u.2.2.2.1 ac u.2.2.2.2.1 u.2.2.2.2.2) ((Y, pa, kp, tl, 1, 1)) hx hb hr hlk hS hP hD ?_ dX12_boxes_521
          exact ⟨0, Y, pa, kp, tl, 1, 1, rfl, rfl, (by exact ra_f (f := 1) rel hcnt htl (by decide))⟩
        · show _
          exact absurd (by assumption) f_191
      · show _
        exact absurd (g5.symm.trans f_185) (by simp)
    · show _
      exact absurd (g3.symm.trans f_171) (by simp)
  · show _
    have hza0 := rk_none rel g2 g3
    obtain ⟨n1q5, n2q5, n3q5⟩ := rk_some rel g4 g5
    have hneq5 := (i32_pos n1q5).2.1
    have thq5 := wf.1 _ _ g5
    have kq5 := cIs_2 (ki_12 wf thq5.1 thq5.2 g5x0)
    have hvq5 := rv_box rel n1q5 n2q5 n3q5 (by omega)
    have hl : lv_has ls 7 [(0, .ref (g 8)), (1, .int 17), (2, .int a0), (3, .int b0), (4, .int c0)] := hl
    refine lv_iload_n hx hb dX12_boxes_0 rfl (lv_at hl 1 rfl) ?_
    refine lv_tableIn (off := 488) (tgt := 489) hx hb dX12_boxes_1 (by decide) (by decide) (by decide) (by decide) ?_
    refine lv_aload_n hx hb dX12_boxes_489 rfl (lv_at hl 0 rfl) ?_
    refine lv_iload_n hx hb dX12_boxes_490 rfl (lv_at hl 2 rfl) ?_
    refine lv_bipush (v := 12) hx hb dX12_boxes_491 (by decide) ?_
    refine cV_i (C := RX12) (n := 2) (rest := []) hx hb hml hown hg hT (c_X12_thing l dC dI g ty s.heap.size Y pa kp ks I tl ac wr tw ρ pl P a0 12 (by exact rel) (by exact wf) (by exact i32_in (by decide) (by decide))) (cv_of hg wM_X12_131 wN_X12_thing wL_X12_X12_thing wK_X12_thing wI_X12 (by decide +kernel) ⟨Nat.le_of_ble_eq_true rfl, Nat.le_of_ble_eq_true rfl⟩) hK hP hD hS hA (va_recv hK hP (ci := 14) (q0 := 0) rfl rfl) rfl hl.1 rfl (Nat.le_of_ble_eq_true rfl) dX12_boxes_493 ⟨Nat.le_of_ble_eq_true rfl, Nat.le_of_ble_eq_true rfl⟩ (fun r_196 u_197 H locs q_195 hP hD hS => ?_)
    rcases q_195 with ⟨rfl, rfl, f_198⟩ | ⟨t_199, rfl, rfl, f_200, f_201, f_202⟩ | ⟨rfl, rfl, f_203, f_204⟩ | ⟨t_205, rfl, rfl, f_206, f_207, f_208⟩
    · show _
      exact absurd (by assumption) f_198
    · show _
      exact absurd (g3.symm.trans f_201) (by simp)
    · show _
      have hP : va_P (dC, dI) vwCl (rW g ty Y pa kp ks I tl ac wr tw) H := hP
      have hD : va_D A (rW g ty Y pa kp ks I tl ac wr tw) := hD
      refine lv_if_eq (tgt := 517) hx hb dX12_boxes_496 (by decide) (fun c9 => absurd c9 (by decide)) (fun _ => ?_)
      refine lv_aload_n hx hb dX12_boxes_499 rfl (lv_at hl 0 rfl) ?_
      refine lv_iload_n hx hb dX12_boxes_500 rfl (lv_at hl 3 rfl) ?_
      refine lv_bipush (v := 12) hx hb dX12_boxes_501 (by decide) ?_
      refine cV_i (C := RX12) (n := 2) (rest := []) hx hb hml hown hg hT (c_X12_thing l dC dI g ty H.size Y pa kp ks I tl ac wr tw ρ pl P b0 12 (by exact rel) (by exact wf) (by exact i32_in (by decide) (by decide))) (cv_of hg wM_X12_131 wN_X12_thing wL_X12_X12_thing wK_X12_thing wI_X12 (by decide +kernel) ⟨Nat.le_of_ble_eq_true rfl, Nat.le_of_ble_eq_true rfl⟩) hK hP hD hS hA (va_recv hK hP (ci := 14) (q0 := 0) rfl rfl) rfl hl.1 rfl (Nat.le_of_ble_eq_true rfl) dX12_boxes_503 ⟨Nat.le_of_ble_eq_true rfl, Nat.le_of_ble_eq_true rfl⟩ (fun r_210 u_211 H locs q_209 hP hD hS => ?_)
      rcases q_209 with ⟨rfl, rfl, f_212⟩ | ⟨t_213, rfl, rfl, f_214, f_215, f_216⟩ | ⟨rfl, rfl, f_217, f_218⟩ | ⟨t_219, rfl, rfl, f_220, f_221, f_222⟩
      · show _
        exact absurd (by assumption) f_212
      · show _
        obtain rfl := Option.some.inj (g5.symm.trans f_215); exact absurd (g5x0.symm.trans f_216) (by decide)
      · show _
        exact absurd (g5.symm.trans f_218) (by simp)
      · show _
        obtain rfl := Option.some.inj (g5.symm.trans f_221)
        have hP : va_P (dC, dI) vwCl (rW g ty Y pa kp ks I tl ac wr tw) H := hP
        have hD : va_D A (rW g ty Y pa kp ks I tl ac wr tw) := hD
        refine lv_if_eq (tgt := 517) hx hb dX12_boxes_506 (by decide) (fun c9 => absurd c9 (by decide)) (fun _ => ?_)
        refine lv_aload_n hx hb dX12_boxes_509 rfl (lv_at hl 0 rfl) ?_
        refine lv_iload_n hx hb dX12_boxes_510 rfl (lv_at hl 2 rfl) ?_
        refine cV_i (C := RX12) (n := 1) (rest := []) hx hb hml hown hg hT (c_X12_need l dC dI g ty H.size Y pa kp ks I tl ac wr tw a0 (by assumption)) (cv_of hg wM_X12_134 wN_X12_need wL_X12_X12_need wK_X12_need wI_X12 (by decide +kernel) ⟨Nat.le_of_ble_eq_true rfl, Nat.le_of_ble_eq_true rfl⟩) hK hP hD hS hA (va_recv hK hP (ci := 14) (q0 := 0) rfl rfl) rfl hl.1 rfl (Nat.le_of_ble_eq_true rfl) dX12_boxes_511 ⟨Nat.le_of_ble_eq_true rfl, Nat.le_of_ble_eq_true rfl⟩ (fun r_224 u_225 H locs q_223 hP hD hS => ?_)
        rcases q_223 with ⟨rfl, rfl, f_226⟩ | ⟨rfl, rfl, f_227⟩
        · show _
          have hP : va_P (dC, dI) vwCl (rW g ty Y pa kp ks I tl ac 1 tw) H := hP
          have hD : va_D A (rW g ty Y pa kp ks I tl ac 1 tw) := hD
          refine lv_if_ne (tgt := 522) hx hb dX12_boxes_514 (by decide) (fun c9 => absurd (by decide) c9) (fun _ => ?_)
          refine lv_aload_n hx hb dX12_boxes_517 rfl (lv_at hl 0 rfl) ?_
          refine cV_l (C := RX12) (n := 0) (rest := []) hx hb hml hown hg hT (c_X12_no l dC dI g ty H.size Y pa kp ks I tl ac 1 tw  ) (cv_of hg wM_X12_107 wN_X12_no wL_X12_X12_no wK_X12_no wI_X12 (by decide +kernel) ⟨Nat.le_of_ble_eq_true rfl, Nat.le_of_ble_eq_true rfl⟩) hK hP hD hS hA (va_recv hK hP (ci := 14) (q0 := 0) rfl rfl) rfl hl.1 rfl (Nat.le_of_ble_eq_true rfl) dX12_boxes_518 ⟨Nat.le_of_ble_eq_true rfl, Nat.le_of_ble_eq_true rfl⟩ (fun r_229 u_230 H locs q_228 hP hD hS => ?_)
          obtain ⟨rfl, rfl⟩ := q_228
          have hP : va_P (dC, dI) vwCl (rW g ty Y pa kp ks I tl ac 1 1) H := hP
          have hD : va_D A (rW g ty Y pa kp ks I tl ac 1 1) := hD
          refine cr_l (wo := fun u : rY × (Nat → Int32) × (Nat → Int32) × (Nat → Int32) × Int32 × Int32 => rW g ty u.1 u.2.1 u.2.2.1 ks I u.2.2.2.1 ac u.2.2.2.2.1 u.2.2.2.2.2) ((Y, pa, kp, tl, 1, 1)) hx hb hr hlk hS hP hD ?_ dX12_boxes_521
          exact ⟨0, Y, pa, kp, tl, 1, 1, rfl, rfl, (by exact ra_f (f := 1) rel hcnt htl (by decide))⟩
        · show _
          exact absurd (by assumption) f_227
    · show _
      exact absurd (g3.symm.trans f_207) (by simp)
  · show _
    obtain ⟨n1t, n2t, n3t⟩ := rk_some rel g2 g3
    have hnet := (i32_pos n1t).2.1
    have tht := wf.1 _ _ g3
    have hzb0 := rk_none rel g5 g6
    have kt := cIs_2 (ki_12 wf tht.1 tht.2 g4)
    have hvt := rv_box rel n1t n2t n3t (by omega)
    have hl : lv_has ls 7 [(0, .ref (g 8)), (1, .int 17), (2, .int a0), (3, .int b0), (4, .int c0)] := hl
    refine lv_iload_n hx hb dX12_boxes_0 rfl (lv_at hl 1 rfl) ?_
    refine lv_tableIn (off := 488) (tgt := 489) hx hb dX12_boxes_1 (by decide) (by decide) (by decide) (by decide) ?_
    refine lv_aload_n hx hb dX12_boxes_489 rfl (lv_at hl 0 rfl) ?_
    refine lv_iload_n hx hb dX12_boxes_490 rfl (lv_at hl 2 rfl) ?_
    refine lv_bipush (v := 12) hx hb dX12_boxes_491 (by decide) ?_
    refine cV_i (C := RX12) (n := 2) (rest := []) hx hb hml hown hg hT (c_X12_thing l dC dI g ty s.heap.size Y pa kp ks I tl ac wr tw ρ pl P a0 12 (by exact rel) (by exact wf) (by exact i32_in (by decide) (by decide))) (cv_of hg wM_X12_131 wN_X12_thing wL_X12_X12_thing wK_X12_thing wI_X12 (by decide +kernel) ⟨Nat.le_of_ble_eq_true rfl, Nat.le_of_ble_eq_true rfl⟩) hK hP hD hS hA (va_recv hK hP (ci := 14) (q0 := 0) rfl rfl) rfl hl.1 rfl (Nat.le_of_ble_eq_true rfl) dX12_boxes_493 ⟨Nat.le_of_ble_eq_true rfl, Nat.le_of_ble_eq_true rfl⟩ (fun r_232 u_233 H locs q_231 hP hD hS => ?_)
    rcases q_231 with ⟨rfl, rfl, f_234⟩ | ⟨t_235, rfl, rfl, f_236, f_237, f_238⟩ | ⟨rfl, rfl, f_239, f_240⟩ | ⟨t_241, rfl, rfl, f_242, f_243, f_244⟩
    · show _
      exact absurd (by assumption) f_234
    · show _
      obtain rfl := Option.some.inj (g3.symm.trans f_237); exact absurd (g4.symm.trans f_238) (by decide)
    · show _
      exact absurd (g3.symm.trans f_240) (by simp)
    · show _
      obtain rfl := Option.some.inj (g3.symm.trans f_243)
      have hP : va_P (dC, dI) vwCl (rW g ty Y pa kp ks I tl ac wr tw) H := hP
      have hD : va_D A (rW g ty Y pa kp ks I tl ac wr tw) := hD
      refine lv_if_eq (tgt := 517) hx hb dX12_boxes_496 (by decide) (fun c9 => absurd c9 (by decide)) (fun _ => ?_)
      refine lv_aload_n hx hb dX12_boxes_499 rfl (lv_at hl 0 rfl) ?_
      refine lv_iload_n hx hb dX12_boxes_500 rfl (lv_at hl 3 rfl) ?_
      refine lv_bipush (v := 12) hx hb dX12_boxes_501 (by decide) ?_
      refine cV_i (C := RX12) (n := 2) (rest := []) hx hb hml hown hg hT (c_X12_thing l dC dI g ty H.size Y pa kp ks I tl ac wr tw ρ pl P b0 12 (by exact rel) (by exact wf) (by exact i32_in (by decide) (by decide))) (cv_of hg wM_X12_131 wN_X12_thing wL_X12_X12_thing wK_X12_thing wI_X12 (by decide +kernel) ⟨Nat.le_of_ble_eq_true rfl, Nat.le_of_ble_eq_true rfl⟩) hK hP hD hS hA (va_recv hK hP (ci := 14) (q0 := 0) rfl rfl) rfl hl.1 rfl (Nat.le_of_ble_eq_true rfl) dX12_boxes_503 ⟨Nat.le_of_ble_eq_true rfl, Nat.le_of_ble_eq_true rfl⟩ (fun r_246 u_247 H locs q_245 hP hD hS => ?_)
      rcases q_245 with ⟨rfl, rfl, f_248⟩ | ⟨t_249, rfl, rfl, f_250, f_251, f_252⟩ | ⟨rfl, rfl, f_253, f_254⟩ | ⟨t_255, rfl, rfl, f_256, f_257, f_258⟩
      · show _
        exact absurd (by assumption) f_248
      · show _
        exact absurd (g6.symm.trans f_251) (by simp)
      · show _
        have hP : va_P (dC, dI) vwCl (rW g ty Y pa kp ks I tl ac wr tw) H := hP
        have hD : va_D A (rW g ty Y pa kp ks I tl ac wr tw) := hD
        refine lv_if_eq (tgt := 517) hx hb dX12_boxes_506 (by decide) (fun c9 => absurd c9 (by decide)) (fun _ => ?_)
        refine lv_aload_n hx hb dX12_boxes_509 rfl (lv_at hl 0 rfl) ?_
        refine lv_iload_n hx hb dX12_boxes_510 rfl (lv_at hl 2 rfl) ?_
        refine cV_i (C := RX12) (n := 1) (rest := []) hx hb hml hown hg hT (c_X12_need l dC dI g ty H.size Y pa kp ks I tl ac wr tw a0 (by assumption)) (cv_of hg wM_X12_134 wN_X12_need wL_X12_X12_need wK_X12_need wI_X12 (by decide +kernel) ⟨Nat.le_of_ble_eq_true rfl, Nat.le_of_ble_eq_true rfl⟩) hK hP hD hS hA (va_recv hK hP (ci := 14) (q0 := 0) rfl rfl) rfl hl.1 rfl (Nat.le_of_ble_eq_true rfl) dX12_boxes_511 ⟨Nat.le_of_ble_eq_true rfl, Nat.le_of_ble_eq_true rfl⟩ (fun r_260 u_261 H locs q_259 hP hD hS => ?_)
        rcases q_259 with ⟨rfl, rfl, f_262⟩ | ⟨rfl, rfl, f_263⟩
        · show _
          exact absurd f_262 (by assumption)
        · show _
          have hP : va_P (dC, dI) vwCl (rW g ty Y pa kp ks I tl ac wr tw) H := hP
          have hD : va_D A (rW g ty Y pa kp ks I tl ac wr tw) := hD
          refine lv_if_ne (tgt := 522) hx hb dX12_boxes_514 (by decide) (fun _ => ?_) (fun c9 => absurd c9 (by decide)) 
          refine lv_aload_n hx hb dX12_boxes_522 rfl (lv_at hl 0 rfl) ?_
          refine lv_aload_n hx hb dX12_boxes_523 rfl (lv_at hl 0 rfl) ?_
          refine va_get (D := (dC, dI)) (ci := 14) (v := .ref (g 9)) (C := RX12) (T := TX12) (N := 21) hx hb hg inG12 hown hK hP 0 rfl rfl 8 (by decide) (hg _ wF_X12_34) (fun _ h9 => h9) rfl dX12_boxes_524 ?_
          refine lv_iload_n hx hb dX12_boxes_527 rfl (lv_at hl 2 rfl) ?_
          refine va_iald hx hb hK hP 7 0 rfl rfl (by assumption) dX12_boxes_528 ?_
          refine lv_iconst (v := 1) hx hb dX12_boxes_529 (by decide) ?_
          refine lv_aload_n hx hb dX12_boxes_530 rfl (lv_at hl 0 rfl) ?_
          refine va_get (D := (dC, dI)) (ci := 14) (v := .ref (g 9)) (C := RX12) (T := TX12) (N := 21) hx hb hg inG12 hown hK hP 0 rfl rfl 8 (by decide) (hg _ wF_X12_34) (fun _ h9 => h9) rfl dX12_boxes_531 ?_
          refine lv_iload_n hx hb dX12_boxes_534 rfl (lv_at hl 3 rfl) ?_
          refine va_iald hx hb hK hP 7 0 rfl rfl (by assumption) dX12_boxes_535 ?_
          refine lv_i2l (v := ((pa b0.toNatClampNeg).toInt64)) hx hb dX12_boxes_536 rfl ?_
          refine cV_v (C := RX12) (n := 3) (rest := []) hx hb hml hown hg hT (c_X12_put l dC dI g ty H.size Y pa kp ks I tl ac wr tw (pa a0.toNatClampNeg) 1 ((pa b0.toNatClampNeg).toInt64) (by exact hvt.1) (by exact hvt.2.1 _ (i32_in (by decide) (by decide)))) (cv_of hg wM_X12_151 wN_X12_put wL_X12_X12_put wK_X12_put wI_X12 (by decide +kernel) ⟨Nat.le_of_ble_eq_true rfl, Nat.le_of_ble_eq_true rfl⟩) hK hP hD hS hA (va_recv hK hP (ci := 14) (q0 := 0) rfl rfl) rfl hl.1 rfl (Nat.le_of_ble_eq_true rfl) dX12_boxes_537 ⟨Nat.le_of_ble_eq_true rfl, Nat.le_of_ble_eq_true rfl⟩ (fun u_266 H locs q_264 hP hD hS => ?_)
          obtain rfl := q_264
          have hP : va_P (dC, dI) vwCl (rW g ty (Y.1, Y.2.1, Y.2.2.1, Y.2.2.2.1, Y.2.2.2.2.1, (vp_updL Y.2.2.2.2.2.1 (Y.2.1 (pa a0.toNatClampNeg).toNatClampNeg + 1).toNatClampNeg ((pa b0.toNatClampNeg).toInt64)), Y.2.2.2.2.2.2.1, Y.2.2.2.2.2.2.2.1, Y.2.2.2.2.2.2.2.2.1, Y.2.2.2.2.2.2.2.2.2.1, Y.2.2.2.2.2.2.2.2.2.2) pa kp ks I tl ac wr tw) H := hP
          have hD : va_D A (rW g ty (Y.1, Y.2.1, Y.2.2.1, Y.2.2.2.1, Y.2.2.2.2.1, (vp_updL Y.2.2.2.2.2.1 (Y.2.1 (pa a0.toNatClampNeg).toNatClampNeg + 1).toNatClampNeg ((pa b0.toNatClampNeg).toInt64)), Y.2.2.2.2.2.2.1, Y.2.2.2.2.2.2.2.1, Y.2.2.2.2.2.2.2.2.1, Y.2.2.2.2.2.2.2.2.2.1, Y.2.2.2.2.2.2.2.2.2.2) pa kp ks I tl ac wr tw) := hD
          refine lv_lconst (v := 0) hx hb dX12_boxes_540 (by decide) ?_
          refine cr_l (wo := fun u : rY × (Nat → Int32) × (Nat → Int32) × (Nat → Int32) × Int32 × Int32 => rW g ty u.1 u.2.1 u.2.2.1 ks I u.2.2.2.1 ac u.2.2.2.2.1 u.2.2.2.2.2) (((Y.1, Y.2.1, Y.2.2.1, Y.2.2.2.1, Y.2.2.2.2.1, (vp_updL Y.2.2.2.2.2.1 (Y.2.1 (pa a0.toNatClampNeg).toNatClampNeg + 1).toNatClampNeg ((pa b0.toNatClampNeg).toInt64)), Y.2.2.2.2.2.2.1, Y.2.2.2.2.2.2.2.1, Y.2.2.2.2.2.2.2.2.1, Y.2.2.2.2.2.2.2.2.2.1, Y.2.2.2.2.2.2.2.2.2.2), pa, kp, tl, wr, tw)) hx hb hr hlk hS hP hD ?_ dX12_boxes_541
          exact ⟨0, (Y.1, Y.2.1, Y.2.2.1, Y.2.2.2.1, Y.2.2.2.2.1, (vp_updL Y.2.2.2.2.2.1 (Y.2.1 (pa a0.toNatClampNeg).toNatClampNeg + 1).toNatClampNeg ((pa b0.toNatClampNeg).toInt64)), Y.2.2.2.2.2.2.1, Y.2.2.2.2.2.2.2.1, Y.2.2.2.2.2.2.2.2.1, Y.2.2.2.2.2.2.2.2.2.1, Y.2.2.2.2.2.2.2.2.2.2), pa, kp, tl, wr, tw, rfl, rfl, (by subst pre6; exact ra_w (rw_nx rel n1t n2t n3t kt (pl_ll rel f_253 f_254) rfl) ⟨rfl, rfl, rfl, rfl⟩ hcnt htl rfl)⟩
      · show _
        exact absurd (g6.symm.trans f_257) (by simp)
  · show _
    obtain ⟨n1t, n2t, n3t⟩ := rk_some rel g2 g3
    have hnet := (i32_pos n1t).2.1
    have tht := wf.1 _ _ g3
    obtain ⟨n1q7, n2q7, n3q7⟩ := rk_some rel g5 g6
    have hneq7 := (i32_pos n1q7).2.1
    have thq7 := wf.1 _ _ g6
    have kt := cIs_2 (ki_12 wf tht.1 tht.2 g4)
    have kq7 := cIs_2 (ki_12 wf thq7.1 thq7.2 g7x0)
    have hvt := rv_box rel n1t n2t n3t (by omega)
    have hvq7 := rv_box rel n1q7 n2q7 n3q7 (by omega)
    have hl : lv_has ls 7 [(0, .ref (g 8)), (1, .int 17), (2, .int a0), (3, .int b0), (4, .int c0)] := hl
    refine lv_iload_n hx hb dX12_boxes_0 rfl (lv_at hl 1 rfl) ?_
    refine lv_tableIn (off := 488) (tgt := 489) hx hb dX12_boxes_1 (by decide) (by decide) (by decide) (by decide) ?_
    refine lv_aload_n hx hb dX12_boxes_489 rfl (lv_at hl 0 rfl) ?_
    refine lv_iload_n hx hb dX12_boxes_490 rfl (lv_at hl 2 rfl) ?_
    refine lv_bipush (v := 12) hx hb dX12_boxes_491 (by decide) ?_
    refine cV_i (C := RX12) (n := 2) (rest := []) hx hb hml hown hg hT (c_X12_thing l dC dI g ty s.heap.size Y pa kp ks I tl ac wr tw ρ pl P a0 12 (by exact rel) (by exact wf) (by exact i32_in (by decide) (by decide))) (cv_of hg wM_X12_131 wN_X12_thing wL_X12_X12_thing wK_X12_thing wI_X12 (by decide +kernel) ⟨Nat.le_of_ble_eq_true rfl, Nat.le_of_ble_eq_true rfl⟩) hK hP hD hS hA (va_recv hK hP (ci := 14) (q0 := 0) rfl rfl) rfl hl.1 rfl (Nat.le_of_ble_eq_true rfl) dX12_boxes_493 ⟨Nat.le_of_ble_eq_true rfl, Nat.le_of_ble_eq_true rfl⟩ (fun r_268 u_269 H locs q_267 hP hD hS => ?_)
    rcases q_267 with ⟨rfl, rfl, f_270⟩ | ⟨t_271, rfl, rfl, f_272, f_273, f_274⟩ | ⟨rfl, rfl, f_275, f_276⟩ | ⟨t_277, rfl, rfl, f_278, f_279, f_280⟩
    · show _
      exact absurd (by assumption) f_270
    · show _
      obtain rfl := Option.some.inj (g3.symm.trans f_273); exact absurd (g4.symm.trans f_274) (by decide)
    · show _
      exact absurd (g3.symm.trans f_276) (by simp)
    · show _
      obtain rfl := Option.some.inj (g3.symm.trans f_279)
      have hP : va_P (dC, dI) vwCl (rW g ty Y pa kp ks I tl ac wr tw) H := hP
      have hD : va_D A (rW g ty Y pa kp ks I tl ac wr tw) := hD
      refine lv_if_eq (tgt := 517) hx hb dX12_boxes_496 (by decide) (fun c9 => absurd c9 (by decide)) (fun _ => ?_)
      refine lv_aload_n hx hb dX12_boxes_499 rfl (lv_at hl 0 rfl) ?_
      refine lv_iload_n hx hb dX12_boxes_500 rfl (lv_at hl 3 rfl) ?_
      refine lv_bipush (v := 12) hx hb dX12_boxes_501 (by decide) ?_
      refine cV_i (C := RX12) (n := 2) (rest := []) hx hb hml hown hg hT (c_X12_thing l dC dI g ty H.size Y pa kp ks I tl ac wr tw ρ pl P b0 12 (by exact rel) (by exact wf) (by exact i32_in (by decide) (by decide))) (cv_of hg wM_X12_131 wN_X12_thing wL_X12_X12_thing wK_X12_thing wI_X12 (by decide +kernel) ⟨Nat.le_of_ble_eq_true rfl, Nat.le_of_ble_eq_true rfl⟩) hK hP hD hS hA (va_recv hK hP (ci := 14) (q0 := 0) rfl rfl) rfl hl.1 rfl (Nat.le_of_ble_eq_true rfl) dX12_boxes_503 ⟨Nat.le_of_ble_eq_true rfl, Nat.le_of_ble_eq_true rfl⟩ (fun r_282 u_283 H locs q_281 hP hD hS => ?_)
      rcases q_281 with ⟨rfl, rfl, f_284⟩ | ⟨t_285, rfl, rfl, f_286, f_287, f_288⟩ | ⟨rfl, rfl, f_289, f_290⟩ | ⟨t_291, rfl, rfl, f_292, f_293, f_294⟩
      · show _
        exact absurd (by assumption) f_284
      · show _
        obtain rfl := Option.some.inj (g6.symm.trans f_287); exact absurd (g7x0.symm.trans f_288) (by decide)
      · show _
        exact absurd (g6.symm.trans f_290) (by simp)
      · show _
        obtain rfl := Option.some.inj (g6.symm.trans f_293)
        have hP : va_P (dC, dI) vwCl (rW g ty Y pa kp ks I tl ac wr tw) H := hP
        have hD : va_D A (rW g ty Y pa kp ks I tl ac wr tw) := hD
        refine lv_if_eq (tgt := 517) hx hb dX12_boxes_506 (by decide) (fun c9 => absurd c9 (by decide)) (fun _ => ?_)
        refine lv_aload_n hx hb dX12_boxes_509 rfl (lv_at hl 0 rfl) ?_
        refine lv_iload_n hx hb dX12_boxes_510 rfl (lv_at hl 2 rfl) ?_
        refine cV_i (C := RX12) (n := 1) (rest := []) hx hb hml hown hg hT (c_X12_need l dC dI g ty H.size Y pa kp ks I tl ac wr tw a0 (by assumption)) (cv_of hg wM_X12_134 wN_X12_need wL_X12_X12_need wK_X12_need wI_X12 (by decide +kernel) ⟨Nat.le_of_ble_eq_true rfl, Nat.le_of_ble_eq_true rfl⟩) hK hP hD hS hA (va_recv hK hP (ci := 14) (q0 := 0) rfl rfl) rfl hl.1 rfl (Nat.le_of_ble_eq_true rfl) dX12_boxes_511 ⟨Nat.le_of_ble_eq_true rfl, Nat.le_of_ble_eq_true rfl⟩ (fun r_296 u_297 H locs q_295 hP hD hS => ?_)
        rcases q_295 with ⟨rfl, rfl, f_298⟩ | ⟨rfl, rfl, f_299⟩
        · show _
          exact absurd f_298 (by assumption)
        · show _
          have hP : va_P (dC, dI) vwCl (rW g ty Y pa kp ks I tl ac wr tw) H := hP
          have hD : va_D A (rW g ty Y pa kp ks I tl ac wr tw) := hD
          refine lv_if_ne (tgt := 522) hx hb dX12_boxes_514 (by decide) (fun _ => ?_) (fun c9 => absurd c9 (by decide)) 
          refine lv_aload_n hx hb dX12_boxes_522 rfl (lv_at hl 0 rfl) ?_
          refine lv_aload_n hx hb dX12_boxes_523 rfl (lv_at hl 0 rfl) ?_
          refine va_get (D := (dC, dI)) (ci := 14) (v := .ref (g 9)) (C := RX12) (T := TX12) (N := 21) hx hb hg inG12 hown hK hP 0 rfl rfl 8 (by decide) (hg _ wF_X12_34) (fun _ h9 => h9) rfl dX12_boxes_524 ?_
          refine lv_iload_n hx hb dX12_boxes_527 rfl (lv_at hl 2 rfl) ?_
          refine va_iald hx hb hK hP 7 0 rfl rfl (by assumption) dX12_boxes_528 ?_
          refine lv_iconst (v := 1) hx hb dX12_boxes_529 (by decide) ?_
          refine lv_aload_n hx hb dX12_boxes_530 rfl (lv_at hl 0 rfl) ?_
          refine va_get (D := (dC, dI)) (ci := 14) (v := .ref (g 9)) (C := RX12) (T := TX12) (N := 21) hx hb hg inG12 hown hK hP 0 rfl rfl 8 (by decide) (hg _ wF_X12_34) (fun _ h9 => h9) rfl dX12_boxes_531 ?_
          refine lv_iload_n hx hb dX12_boxes_534 rfl (lv_at hl 3 rfl) ?_
          refine va_iald hx hb hK hP 7 0 rfl rfl (by assumption) dX12_boxes_535 ?_
          refine lv_i2l (v := ((pa b0.toNatClampNeg).toInt64)) hx hb dX12_boxes_536 rfl ?_
          refine cV_v (C := RX12) (n := 3) (rest := []) hx hb hml hown hg hT (c_X12_put l dC dI g ty H.size Y pa kp ks I tl ac wr tw (pa a0.toNatClampNeg) 1 ((pa b0.toNatClampNeg).toInt64) (by exact hvt.1) (by exact hvt.2.1 _ (i32_in (by decide) (by decide)))) (cv_of hg wM_X12_151 wN_X12_put wL_X12_X12_put wK_X12_put wI_X12 (by decide +kernel) ⟨Nat.le_of_ble_eq_true rfl, Nat.le_of_ble_eq_true rfl⟩) hK hP hD hS hA (va_recv hK hP (ci := 14) (q0 := 0) rfl rfl) rfl hl.1 rfl (Nat.le_of_ble_eq_true rfl) dX12_boxes_537 ⟨Nat.le_of_ble_eq_true rfl, Nat.le_of_ble_eq_true rfl⟩ (fun u_302 H locs q_300 hP hD hS => ?_)
          obtain rfl := q_300
          have hP : va_P (dC, dI) vwCl (rW g ty (Y.1, Y.2.1, Y.2.2.1, Y.2.2.2.1, Y.2.2.2.2.1, (vp_updL Y.2.2.2.2.2.1 (Y.2.1 (pa a0.toNatClampNeg).toNatClampNeg + 1).toNatClampNeg ((pa b0.toNatClampNeg).toInt64)), Y.2.2.2.2.2.2.1, Y.2.2.2.2.2.2.2.1, Y.2.2.2.2.2.2.2.2.1, Y.2.2.2.2.2.2.2.2.2.1, Y.2.2.2.2.2.2.2.2.2.2) pa kp ks I tl ac wr tw) H := hP
          have hD : va_D A (rW g ty (Y.1, Y.2.1, Y.2.2.1, Y.2.2.2.1, Y.2.2.2.2.1, (vp_updL Y.2.2.2.2.2.1 (Y.2.1 (pa a0.toNatClampNeg).toNatClampNeg + 1).toNatClampNeg ((pa b0.toNatClampNeg).toInt64)), Y.2.2.2.2.2.2.1, Y.2.2.2.2.2.2.2.1, Y.2.2.2.2.2.2.2.2.1, Y.2.2.2.2.2.2.2.2.2.1, Y.2.2.2.2.2.2.2.2.2.2) pa kp ks I tl ac wr tw) := hD
          refine lv_lconst (v := 0) hx hb dX12_boxes_540 (by decide) ?_
          refine cr_l (wo := fun u : rY × (Nat → Int32) × (Nat → Int32) × (Nat → Int32) × Int32 × Int32 => rW g ty u.1 u.2.1 u.2.2.1 ks I u.2.2.2.1 ac u.2.2.2.2.1 u.2.2.2.2.2) (((Y.1, Y.2.1, Y.2.2.1, Y.2.2.2.1, Y.2.2.2.2.1, (vp_updL Y.2.2.2.2.2.1 (Y.2.1 (pa a0.toNatClampNeg).toNatClampNeg + 1).toNatClampNeg ((pa b0.toNatClampNeg).toInt64)), Y.2.2.2.2.2.2.1, Y.2.2.2.2.2.2.2.1, Y.2.2.2.2.2.2.2.2.1, Y.2.2.2.2.2.2.2.2.2.1, Y.2.2.2.2.2.2.2.2.2.2), pa, kp, tl, wr, tw)) hx hb hr hlk hS hP hD ?_ dX12_boxes_541
          exact ⟨0, (Y.1, Y.2.1, Y.2.2.1, Y.2.2.2.1, Y.2.2.2.2.1, (vp_updL Y.2.2.2.2.2.1 (Y.2.1 (pa a0.toNatClampNeg).toNatClampNeg + 1).toNatClampNeg ((pa b0.toNatClampNeg).toInt64)), Y.2.2.2.2.2.2.1, Y.2.2.2.2.2.2.2.1, Y.2.2.2.2.2.2.2.2.1, Y.2.2.2.2.2.2.2.2.2.1, Y.2.2.2.2.2.2.2.2.2.2), pa, kp, tl, wr, tw, rfl, rfl, (by subst pre6; exact ra_w (rw_nx rel n1t n2t n3t kt (pl_ll rel f_292 f_293) rfl) ⟨rfl, rfl, rfl, rfl⟩ hcnt htl rfl)⟩
set_option maxHeartbeats 800000 in
set_option maxRecDepth 100000 in
theorem c_X12_boxes_18 (l : Launch) (dC : Nat → ClassId) (dI : Nat → Nat → Nat) (g : Nat → Nat) (ty : Nat → ClassId) (sz : Nat) (Y : rY) (pa : Nat → Int32) (kp : Nat → Int32) (ks : Int32) (I : rI) (tl : Nat → Int32) (ac : Int64) (wr : Int32) (tw : Int32) (ρ : Nat → Nat) (pl : Nat → Option Nat) (P : cQ) (md : Int32) (Z : cZ) (rz9 : Int64) (u9 : (Nat → Option Nat) × Int32) (a0 : Int32) (b0 : Int32) (c0 : Int32) (pre0 : rR Y.2.2.2.2.2.2.2.2.2.1 Y pa ρ pl P) (pre1 : cWF pl P) (pre2 : ks = 0) (pre3 : rCnt Y md) (pre4 : tl 5 = md) (pre5 : 0 ≤ md ∧ md ≤ 6000) (pre6 : tw = 0) (pre7 : q_X11_followBox a0 b0 pl ac (-1) md Z P rz9 u9) : Met l yX12_boxes (Cond.code yX12_boxes cX12_boxes 7 (some .long) :: gT) ({ frames := 3, cells := 0, slots := 0, locals := 82 }) (cP (dC, dI) (rTy ty) (rW g ty Y pa kp ks I tl ac wr tw) sz [.ref (g 8), .int 18, .int a0, .int b0, .int c0]) (va_Ql (fun (rz : Int64) (u : rY × (Nat → Int32) × (Nat → Int32) × (Nat → Int32) × Int32 × Int32) => ∃ (r' : Int64) (Y' : rY) (pa' kp' tl' : Nat → Int32) (wr' tw' : Int32), r' = rz ∧ (Y', pa', kp', tl', wr', tw') = u ∧ rAns u9.2 rz9 u9.1 P md tl Y r' Y' pa' tl' wr' tw') (cB (dC, dI) (fun u : rY × (Nat → Int32) × (Nat → Int32) × (Nat → Int32) × Int32 × Int32 => rW g ty u.1 u.2.1 u.2.2.1 ks I u.2.2.2.1 ac u.2.2.2.2.1 u.2.2.2.2.2) (va_A (rW g ty Y pa kp ks I tl ac wr tw) sz)) (va_A (rW g ty Y pa kp ks I tl ac wr tw) sz)) 0 0 (va_A (rW g ty Y pa kp ks I tl ac wr tw) sz) := by
  refine cc_of (Qa := fun A => va_Ql (fun (rz : Int64) (u : rY × (Nat → Int32) × (Nat → Int32) × (Nat → Int32) × Int32 × Int32) => ∃ (r' : Int64) (Y' : rY) (pa' kp' tl' : Nat → Int32) (wr' tw' : Int32), r' = rz ∧ (Y', pa', kp', tl', wr', tw') = u ∧ rAns u9.2 rz9 u9.1 P md tl Y r' Y' pa' tl' wr' tw') (cB (dC, dI) (fun u : rY × (Nat → Int32) × (Nat → Int32) × (Nat → Int32) × Int32 × Int32 => rW g ty u.1 u.2.1 u.2.2.1 ks I u.2.2.2.1 ac u.2.2.2.2.1 u.2.2.2.2.2) A) A) (by decide) (Nat.le_of_ble_eq_true rfl) ?_
  intro p e s m below meth c A hx hb hr hml hown hg hlk hmn hP hK hD hT hS hA hsz ls hl
  have hown : s.vm.findClass RX12 = some m.cls := hown
  have rel := pre0
  have wf := pre1
  have hcnt := pre3
  have htl := pre4
  rcases pre7 with ⟨rfl, rfl, g2⟩ | ⟨rfl, rfl, g2, g3⟩ | ⟨t, rfl, rfl, g2, g3, g4, g5⟩ | ⟨rfl, rfl, g2, g3, g4⟩ | ⟨t, o, rfl, rfl, g2, g3, g4, g5, g6⟩
  · show _
    have hl : lv_has ls 7 [(0, .ref (g 8)), (1, .int 18), (2, .int a0), (3, .int b0), (4, .int c0)] := hl
    refine lv_iload_n hx hb dX12_boxes_0 rfl (lv_at hl 1 rfl) ?_
    refine lv_tableIn (off := 541) (tgt := 542) hx hb dX12_boxes_1 (by decide) (by decide) (by decide) (by decide) ?_
    refine lv_aload_n hx hb dX12_boxes_542 rfl (lv_at hl 0 rfl) ?_
    refine lv_iload_n hx hb dX12_boxes_543 rfl (lv_at hl 3 rfl) ?_
    refine cV_i (C := RX12) (n := 1) (rest := []) hx hb hml hown hg hT (c_X12_place l dC dI g ty s.heap.size Y pa kp ks I tl ac wr tw b0 ) (cv_of hg wM_X12_83 wN_X12_place wL_X12_X12_place wK_X12_place wI_X12 (by decide +kernel) ⟨Nat.le_of_ble_eq_true rfl, Nat.le_of_ble_eq_true rfl⟩) hK hP hD hS hA (va_recv hK hP (ci := 14) (q0 := 0) rfl rfl) rfl hl.1 rfl (Nat.le_of_ble_eq_true rfl) dX12_boxes_544 ⟨Nat.le_of_ble_eq_true rfl, Nat.le_of_ble_eq_true rfl⟩ (fun r_2 u_3 H locs q_1 hP hD hS => ?_)
    rcases q_1 with ⟨rfl, rfl, f_4⟩ | ⟨rfl, rfl, f_5⟩
    · show _
      have hP : va_P (dC, dI) vwCl (rW g ty Y pa kp ks I tl ac 2 tw) H := hP
      have hD : va_D A (rW g ty Y pa kp ks I tl ac 2 tw) := hD
      refine lv_if_eq (tgt := 568) hx hb dX12_boxes_547 (by decide) (fun _ => ?_) (fun c9 => absurd (by decide) c9) 
      refine lv_aload_n hx hb dX12_boxes_568 rfl (lv_at hl 0 rfl) ?_
      refine cV_l (C := RX12) (n := 0) (rest := []) hx hb hml hown hg hT (c_X12_no l dC dI g ty H.size Y pa kp ks I tl ac 2 tw  ) (cv_of hg wM_X12_107 wN_X12_no wL_X12_X12_no wK_X12_no wI_X12 (by decide +kernel) ⟨Nat.le_of_ble_eq_true rfl, Nat.le_of_ble_eq_true rfl⟩) hK hP hD hS hA (va_recv hK hP (ci := 14) (q0 := 0) rfl rfl) rfl hl.1 rfl (Nat.le_of_ble_eq_true rfl) dX12_boxes_569 ⟨Nat.le_of_ble_eq_true rfl, Nat.le_of_ble_eq_true rfl⟩ (fun r_7 u_8 H locs q_6 hP hD hS => ?_)
      obtain ⟨rfl, rfl⟩ := q_6
      have hP : va_P (dC, dI) vwCl (rW g ty Y pa kp ks I tl ac 2 1) H := hP
      have hD : va_D A (rW g ty Y pa kp ks I tl ac 2 1) := hD
      refine cr_l (wo := fun u : rY × (Nat → Int32) × (Nat → Int32) × (Nat → Int32) × Int32 × Int32 => rW g ty u.1 u.2.1 u.2.2.1 ks I u.2.2.2.1 ac u.2.2.2.2.1 u.2.2.2.2.2) ((Y, pa, kp, tl, 2, 1)) hx hb hr hlk hS hP hD ?_ dX12_boxes_572
      exact ⟨0, Y, pa, kp, tl, 2, 1, rfl, rfl, (by exact ra_f (f := 2) rel hcnt htl (by decide))⟩
    · show _
      exact absurd f_5 (by assumption)
  · show _
    have hl : lv_has ls 7 [(0, .ref (g 8)), (1, .int 18), (2, .int a0), (3, .int b0), (4, .int c0)] := hl
    refine lv_iload_n hx hb dX12_boxes_0 rfl (lv_at hl 1 rfl) ?_
    refine lv_tableIn (off := 541) (tgt := 542) hx hb dX12_boxes_1 (by decide) (by decide) (by decide) (by decide) ?_
    refine lv_aload_n hx hb dX12_boxes_542 rfl (lv_at hl 0 rfl) ?_
    refine lv_iload_n hx hb dX12_boxes_543 rfl (lv_at hl 3 rfl) ?_
    refine cV_i (C := RX12) (n := 1) (rest := []) hx hb hml hown hg hT (c_X12_place l dC dI g ty s.heap.size Y pa kp ks I tl ac wr tw b0 ) (cv_of hg wM_X12_83 wN_X12_place wL_X12_X12_place wK_X12_place wI_X12 (by decide +kernel) ⟨Nat.le_of_ble_eq_true rfl, Nat.le_of_ble_eq_true rfl⟩) hK hP hD hS hA (va_recv hK hP (ci := 14) (q0 := 0) rfl rfl) rfl hl.1 rfl (Nat.le_of_ble_eq_true rfl) dX12_boxes_544 ⟨Nat.le_of_ble_eq_true rfl, Nat.le_of_ble_eq_true rfl⟩ (fun r_10 u_11 H locs q_9 hP hD hS => ?_)
    rcases q_9 with ⟨rfl, rfl, f_12⟩ | ⟨rfl, rfl, f_13⟩
    · show _
      exact absurd (by assumption) f_12
    · show _
      have hP : va_P (dC, dI) vwCl (rW g ty Y pa kp ks I tl ac wr tw) H := hP
      have hD : va_D A (rW g ty Y pa kp ks I tl ac wr tw) := hD
      refine lv_if_eq (tgt := 568) hx hb dX12_boxes_547 (by decide) (fun c9 => absurd c9 (by decide)) (fun _ => ?_)
      refine lv_aload_n hx hb dX12_boxes_550 rfl (lv_at hl 0 rfl) ?_
      refine lv_iload_n hx hb dX12_boxes_551 rfl (lv_at hl 2 rfl) ?_
      refine lv_bipush (v := 12) hx hb dX12_boxes_552 (by decide) ?_
      refine cV_i (C := RX12) (n := 2) (rest := []) hx hb hml hown hg hT (c_X12_thing l dC dI g ty H.size Y pa kp ks I tl ac wr tw ρ pl P a0 12 (by exact rel) (by exact wf) (by exact i32_in (by decide) (by decide))) (cv_of hg wM_X12_131 wN_X12_thing wL_X12_X12_thing wK_X12_thing wI_X12 (by decide +kernel) ⟨Nat.le_of_ble_eq_true rfl, Nat.le_of_ble_eq_true rfl⟩) hK hP hD hS hA (va_recv hK hP (ci := 14) (q0 := 0) rfl rfl) rfl hl.1 rfl (Nat.le_of_ble_eq_true rfl) dX12_boxes_554 ⟨Nat.le_of_ble_eq_true rfl, Nat.le_of_ble_eq_true rfl⟩ (fun r_15 u_16 H locs q_14 hP hD hS => ?_)
      rcases q_14 with ⟨rfl, rfl, f_17⟩ | ⟨t_18, rfl, rfl, f_19, f_20, f_21⟩ | ⟨rfl, rfl, f_22, f_23⟩ | ⟨t_24, rfl, rfl, f_25, f_26, f_27⟩
      · show _
        have hP : va_P (dC, dI) vwCl (rW g ty Y pa kp ks I tl ac 2 tw) H := hP
        have hD : va_D A (rW g ty Y pa kp ks I tl ac 2 tw) := hD
        refine lv_if_eq (tgt := 568) hx hb dX12_boxes_557 (by decide) (fun _ => ?_) (fun c9 => absurd (by decide) c9) 
        refine lv_aload_n hx hb dX12_boxes_568 rfl (lv_at hl 0 rfl) ?_
        refine cV_l (C := RX12) (n := 0) (rest := []) hx hb hml hown hg hT (c_X12_no l dC dI g ty H.size Y pa kp ks I tl ac 2 tw  ) (cv_of hg wM_X12_107 wN_X12_no wL_X12_X12_no wK_X12_no wI_X12 (by decide +kernel) ⟨Nat.le_of_ble_eq_true rfl, Nat.le_of_ble_eq_true rfl⟩) hK hP hD hS hA (va_recv hK hP (ci := 14) (q0 := 0) rfl rfl) rfl hl.1 rfl (Nat.le_of_ble_eq_true rfl) dX12_boxes_569 ⟨Nat.le_of_ble_eq_true rfl, Nat.le_of_ble_eq_true rfl⟩ (fun r_29 u_30 H locs q_28 hP hD hS => ?_)
        obtain ⟨rfl, rfl⟩ := q_28
        have hP : va_P (dC, dI) vwCl (rW g ty Y pa kp ks I tl ac 2 1) H := hP
        have hD : va_D A (rW g ty Y pa kp ks I tl ac 2 1) := hD
        refine cr_l (wo := fun u : rY × (Nat → Int32) × (Nat → Int32) × (Nat → Int32) × Int32 × Int32 => rW g ty u.1 u.2.1 u.2.2.1 ks I u.2.2.2.1 ac u.2.2.2.2.1 u.2.2.2.2.2) ((Y, pa, kp, tl, 2, 1)) hx hb hr hlk hS hP hD ?_ dX12_boxes_572
        exact ⟨0, Y, pa, kp, tl, 2, 1, rfl, rfl, (by exact ra_f (f := 2) rel hcnt htl (by decide))⟩
      · show _
        exact absurd f_19 (by assumption)
      · show _
        exact absurd f_22 (by assumption)
      · show _
        exact absurd f_25 (by assumption)
  · show _
    obtain ⟨n1t, n2t, n3t⟩ := rk_some rel g3 g4
    have hnet := (i32_pos n1t).2.1
    have tht := wf.1 _ _ g4
    have hl : lv_has ls 7 [(0, .ref (g 8)), (1, .int 18), (2, .int a0), (3, .int b0), (4, .int c0)] := hl
    refine lv_iload_n hx hb dX12_boxes_0 rfl (lv_at hl 1 rfl) ?_
    refine lv_tableIn (off := 541) (tgt := 542) hx hb dX12_boxes_1 (by decide) (by decide) (by decide) (by decide) ?_
    refine lv_aload_n hx hb dX12_boxes_542 rfl (lv_at hl 0 rfl) ?_
    refine lv_iload_n hx hb dX12_boxes_543 rfl (lv_at hl 3 rfl) ?_
    refine cV_i (C := RX12) (n := 1) (rest := []) hx hb hml hown hg hT (c_X12_place l dC dI g ty s.heap.size Y pa kp ks I tl ac wr tw b0 ) (cv_of hg wM_X12_83 wN_X12_place wL_X12_X12_place wK_X12_place wI_X12 (by decide +kernel) ⟨Nat.le_of_ble_eq_true rfl, Nat.le_of_ble_eq_true rfl⟩) hK hP hD hS hA (va_recv hK hP (ci := 14) (q0 := 0) rfl rfl) rfl hl.1 rfl (Nat.le_of_ble_eq_true rfl) dX12_boxes_544 ⟨Nat.le_of_ble_eq_true rfl, Nat.le_of_ble_eq_true rfl⟩ (fun r_32 u_33 H locs q_31 hP hD hS => ?_)
    rcases q_31 with ⟨rfl, rfl, f_34⟩ | ⟨rfl, rfl, f_35⟩
    · show _
      exact absurd (by assumption) f_34
    · show _
      have hP : va_P (dC, dI) vwCl (rW g ty Y pa kp ks I tl ac wr tw) H := hP
      have hD : va_D A (rW g ty Y pa kp ks I tl ac wr tw) := hD
      refine lv_if_eq (tgt := 568) hx hb dX12_boxes_547 (by decide) (fun c9 => absurd c9 (by decide)) (fun _ => ?_)
      refine lv_aload_n hx hb dX12_boxes_550 rfl (lv_at hl 0 rfl) ?_
      refine lv_iload_n hx hb dX12_boxes_551 rfl (lv_at hl 2 rfl) ?_
      refine lv_bipush (v := 12) hx hb dX12_boxes_552 (by decide) ?_
      refine cV_i (C := RX12) (n := 2) (rest := []) hx hb hml hown hg hT (c_X12_thing l dC dI g ty H.size Y pa kp ks I tl ac wr tw ρ pl P a0 12 (by exact rel) (by exact wf) (by exact i32_in (by decide) (by decide))) (cv_of hg wM_X12_131 wN_X12_thing wL_X12_X12_thing wK_X12_thing wI_X12 (by decide +kernel) ⟨Nat.le_of_ble_eq_true rfl, Nat.le_of_ble_eq_true rfl⟩) hK hP hD hS hA (va_recv hK hP (ci := 14) (q0 := 0) rfl rfl) rfl hl.1 rfl (Nat.le_of_ble_eq_true rfl) dX12_boxes_554 ⟨Nat.le_of_ble_eq_true rfl, Nat.le_of_ble_eq_true rfl⟩ (fun r_37 u_38 H locs q_36 hP hD hS => ?_)
      rcases q_36 with ⟨rfl, rfl, f_39⟩ | ⟨t_40, rfl, rfl, f_41, f_42, f_43⟩ | ⟨rfl, rfl, f_44, f_45⟩ | ⟨t_46, rfl, rfl, f_47, f_48, f_49⟩
      · show _
        exact absurd (by assumption) f_39
      · show _
        obtain rfl := Option.some.inj (g4.symm.trans f_42)
        have hP : va_P (dC, dI) vwCl (rW g ty Y pa kp ks I tl ac 3 tw) H := hP
        have hD : va_D A (rW g ty Y pa kp ks I tl ac 3 tw) := hD
        refine lv_if_eq (tgt := 568) hx hb dX12_boxes_557 (by decide) (fun _ => ?_) (fun c9 => absurd (by decide) c9) 
        refine lv_aload_n hx hb dX12_boxes_568 rfl (lv_at hl 0 rfl) ?_
        refine cV_l (C := RX12) (n := 0) (rest := []) hx hb hml hown hg hT (c_X12_no l dC dI g ty H.size Y pa kp ks I tl ac 3 tw  ) (cv_of hg wM_X12_107 wN_X12_no wL_X12_X12_no wK_X12_no wI_X12 (by decide +kernel) ⟨Nat.le_of_ble_eq_true rfl, Nat.le_of_ble_eq_true rfl⟩) hK hP hD hS hA (va_recv hK hP (ci := 14) (q0 := 0) rfl rfl) rfl hl.1 rfl (Nat.le_of_ble_eq_true rfl) dX12_boxes_569 ⟨Nat.le_of_ble_eq_true rfl, Nat.le_of_ble_eq_true rfl⟩ (fun r_51 u_52 H locs q_50 hP hD hS => ?_)
        obtain ⟨rfl, rfl⟩ := q_50
        have hP : va_P (dC, dI) vwCl (rW g ty Y pa kp ks I tl ac 3 1) H := hP
        have hD : va_D A (rW g ty Y pa kp ks I tl ac 3 1) := hD
        refine cr_l (wo := fun u : rY × (Nat → Int32) × (Nat → Int32) × (Nat → Int32) × Int32 × Int32 => rW g ty u.1 u.2.1 u.2.2.1 ks I u.2.2.2.1 ac u.2.2.2.2.1 u.2.2.2.2.2) ((Y, pa, kp, tl, 3, 1)) hx hb hr hlk hS hP hD ?_ dX12_boxes_572
        exact ⟨0, Y, pa, kp, tl, 3, 1, rfl, rfl, (by exact ra_f (f := 3) rel hcnt htl (by decide))⟩
      · show _
        exact absurd (g4.symm.trans f_45) (by simp)
      · show _
        obtain rfl := Option.some.inj (g4.symm.trans f_48); exact absurd (g5.symm.trans f_49) (by decide)
  · show _
    have hza0 := rk_none rel g3 g4
    have hl : lv_has ls 7 [(0, .ref (g 8)), (1, .int 18), (2, .int a0), (3, .int b0), (4, .int c0)] := hl
    refine lv_iload_n hx hb dX12_boxes_0 rfl (lv_at hl 1 rfl) ?_
    refine lv_tableIn (off := 541) (tgt := 542) hx hb dX12_boxes_1 (by decide) (by decide) (by decide) (by decide) ?_
    refine lv_aload_n hx hb dX12_boxes_542 rfl (lv_at hl 0 rfl) ?_
    refine lv_iload_n hx hb dX12_boxes_543 rfl (lv_at hl 3 rfl) ?_
    refine cV_i (C := RX12) (n := 1) (rest := []) hx hb hml hown hg hT (c_X12_place l dC dI g ty s.heap.size Y pa kp ks I tl ac wr tw b0 ) (cv_of hg wM_X12_83 wN_X12_place wL_X12_X12_place wK_X12_place wI_X12 (by decide +kernel) ⟨Nat.le_of_ble_eq_true rfl, Nat.le_of_ble_eq_true rfl⟩) hK hP hD hS hA (va_recv hK hP (ci := 14) (q0 := 0) rfl rfl) rfl hl.1 rfl (Nat.le_of_ble_eq_true rfl) dX12_boxes_544 ⟨Nat.le_of_ble_eq_true rfl, Nat.le_of_ble_eq_true rfl⟩ (fun r_54 u_55 H locs q_53 hP hD hS => ?_)
    rcases q_53 with ⟨rfl, rfl, f_56⟩ | ⟨rfl, rfl, f_57⟩
    · show _
      exact absurd (by assumption) f_56
    · show _
      have hP : va_P (dC, dI) vwCl (rW g ty Y pa kp ks I tl ac wr tw) H := hP
      have hD : va_D A (rW g ty Y pa kp ks I tl ac wr tw) := hD
      refine lv_if_eq (tgt := 568) hx hb dX12_boxes_547 (by decide) (fun c9 => absurd c9 (by decide)) (fun _ => ?_)
      refine lv_aload_n hx hb dX12_boxes_550 rfl (lv_at hl 0 rfl) ?_
      refine lv_iload_n hx hb dX12_boxes_551 rfl (lv_at hl 2 rfl) ?_
      refine lv_bipush (v := 12) hx hb dX12_boxes_552 (by decide) ?_
      refine cV_i (C := RX12) (n := 2) (rest := []) hx hb hml hown hg hT (c_X12_thing l dC dI g ty H.size Y pa kp ks I tl ac wr tw ρ pl P a0 12 (by exact rel) (by exact wf) (by exact i32_in (by decide) (by decide))) (cv_of hg wM_X12_131 wN_X12_thing wL_X12_X12_thing wK_X12_thing wI_X12 (by decide +kernel) ⟨Nat.le_of_ble_eq_true rfl, Nat.le_of_ble_eq_true rfl⟩) hK hP hD hS hA (va_recv hK hP (ci := 14) (q0 := 0) rfl rfl) rfl hl.1 rfl (Nat.le_of_ble_eq_true rfl) dX12_boxes_554 ⟨Nat.le_of_ble_eq_true rfl, Nat.le_of_ble_eq_true rfl⟩ (fun r_59 u_60 H locs q_58 hP hD hS => ?_)
      rcases q_58 with ⟨rfl, rfl, f_61⟩ | ⟨t_62, rfl, rfl, f_63, f_64, f_65⟩ | ⟨rfl, rfl, f_66, f_67⟩ | ⟨t_68, rfl, rfl, f_69, f_70, f_71⟩
      · show _
        exact absurd (by assumption) f_61
      · show _
        exact absurd (g4.symm.trans f_64) (by simp)
      · show _
        have hP : va_P (dC, dI) vwCl (rW g ty Y pa kp ks I tl ac wr tw) H := hP
        have hD : va_D A (rW g ty Y pa kp ks I tl ac wr tw) := hD
        refine lv_if_eq (tgt := 568) hx hb dX12_boxes_557 (by decide) (fun c9 => absurd c9 (by decide)) (fun _ => ?_)
        refine lv_aload_n hx hb dX12_boxes_560 rfl (lv_at hl 0 rfl) ?_
        refine lv_iload_n hx hb dX12_boxes_561 rfl (lv_at hl 2 rfl) ?_
        refine cV_i (C := RX12) (n := 1) (rest := []) hx hb hml hown hg hT (c_X12_need l dC dI g ty H.size Y pa kp ks I tl ac wr tw a0 (by assumption)) (cv_of hg wM_X12_134 wN_X12_need wL_X12_X12_need wK_X12_need wI_X12 (by decide +kernel) ⟨Nat.le_of_ble_eq_true rfl, Nat.le_of_ble_eq_true rfl⟩) hK hP hD hS hA (va_recv hK hP (ci := 14) (q0 := 0) rfl rfl) rfl hl.1 rfl (Nat.le_of_ble_eq_true rfl) dX12_boxes_562 ⟨Nat.le_of_ble_eq_true rfl, Nat.le_of_ble_eq_true rfl⟩ (fun r_73 u_74 H locs q_72 hP hD hS => ?_)
        rcases q_72 with ⟨rfl, rfl, f_75⟩ | ⟨rfl, rfl, f_76⟩
        · show _
          have hP : va_P (dC, dI) vwCl (rW g ty Y pa kp ks I tl ac 1 tw) H := hP
          have hD : va_D A (rW g ty Y pa kp ks I tl ac 1 tw) := hD
          refine lv_if_ne (tgt := 573) hx hb dX12_boxes_565 (by decide) (fun c9 => absurd (by decide) c9) (fun _ => ?_)
          refine lv_aload_n hx hb dX12_boxes_568 rfl (lv_at hl 0 rfl) ?_
          refine cV_l (C := RX12) (n := 0) (rest := []) hx hb hml hown hg hT (c_X12_no l dC dI g ty H.size Y pa kp ks I tl ac 1 tw  ) (cv_of hg wM_X12_107 wN_X12_no wL_X12_X12_no wK_X12_no wI_X12 (by decide +kernel) ⟨Nat.le_of_ble_eq_true rfl, Nat.le_of_ble_eq_true rfl⟩) hK hP hD hS hA (va_recv hK hP (ci := 14) (q0 := 0) rfl rfl) rfl hl.1 rfl (Nat.le_of_ble_eq_true rfl) dX12_boxes_569 ⟨Nat.le_of_ble_eq_true rfl, Nat.le_of_ble_eq_true rfl⟩ (fun r_78 u_79 H locs q_77 hP hD hS => ?_)
          obtain ⟨rfl, rfl⟩ := q_77
          have hP : va_P (dC, dI) vwCl (rW g ty Y pa kp ks I tl ac 1 1) H := hP
          have hD : va_D A (rW g ty Y pa kp ks I tl ac 1 1) := hD
          refine cr_l (wo := fun u : rY × (Nat → Int32) × (Nat → Int32) × (Nat → Int32) × Int32 × Int32 => rW g ty u.1 u.2.1 u.2.2.1 ks I u.2.2.2.1 ac u.2.2.2.2.1 u.2.2.2.2.2) ((Y, pa, kp, tl, 1, 1)) hx hb hr hlk hS hP hD ?_ dX12_boxes_572
          exact ⟨0, Y, pa, kp, tl, 1, 1, rfl, rfl, (by exact ra_f (f := 1) rel hcnt htl (by decide))⟩
        · show _
          exact absurd (by assumption) f_76
      · show _
        exact absurd (g4.symm.trans f_70) (by simp)
  · show _
    obtain ⟨n1t, n2t, n3t⟩ := rk_some rel g3 g4
    have hnet := (i32_pos n1t).2.1
    have tht := wf.1 _ _ g4
    have kt := cIs_2 (ki_12 wf tht.1 tht.2 g5)
    have hvt := rv_box rel n1t n2t n3t (by omega)
    have hl : lv_has ls 7 [(0, .ref (g 8)), (1, .int 18), (2, .int a0), (3, .int b0), (4, .int c0)] := hl
    refine lv_iload_n hx hb dX12_boxes_0 rfl (lv_at hl 1 rfl) ?_
    refine lv_tableIn (off := 541) (tgt := 542) hx hb dX12_boxes_1 (by decide) (by decide) (by decide) (by decide) ?_
    refine lv_aload_n hx hb dX12_boxes_542 rfl (lv_at hl 0 rfl) ?_
    refine lv_iload_n hx hb dX12_boxes_543 rfl (lv_at hl 3 rfl) ?_
    refine cV_i (C := RX12) (n := 1) (rest := []) hx hb hml hown hg hT (c_X12_place l dC dI g ty s.heap.size Y pa kp ks I tl ac wr tw b0 ) (cv_of hg wM_X12_83 wN_X12_place wL_X12_X12_place wK_X12_place wI_X12 (by decide +kernel) ⟨Nat.le_of_ble_eq_true rfl, Nat.le_of_ble_eq_true rfl⟩) hK hP hD hS hA (va_recv hK hP (ci := 14) (q0 := 0) rfl rfl) rfl hl.1 rfl (Nat.le_of_ble_eq_true rfl) dX12_boxes_544 ⟨Nat.le_of_ble_eq_true rfl, Nat.le_of_ble_eq_true rfl⟩ (fun r_81 u_82 H locs q_80 hP hD hS => ?_)
    rcases q_80 with ⟨rfl, rfl, f_83⟩ | ⟨rfl, rfl, f_84⟩
    · show _
      exact absurd (by assumption) f_83
    · show _
      have hP : va_P (dC, dI) vwCl (rW g ty Y pa kp ks I tl ac wr tw) H := hP
      have hD : va_D A (rW g ty Y pa kp ks I tl ac wr tw) := hD
      refine lv_if_eq (tgt := 568) hx hb dX12_boxes_547 (by decide) (fun c9 => absurd c9 (by decide)) (fun _ => ?_)
      refine lv_aload_n hx hb dX12_boxes_550 rfl (lv_at hl 0 rfl) ?_
      refine lv_iload_n hx hb dX12_boxes_551 rfl (lv_at hl 2 rfl) ?_
      refine lv_bipush (v := 12) hx hb dX12_boxes_552 (by decide) ?_
      refine cV_i (C := RX12) (n := 2) (rest := []) hx hb hml hown hg hT (c_X12_thing l dC dI g ty H.size Y pa kp ks I tl ac wr tw ρ pl P a0 12 (by exact rel) (by exact wf) (by exact i32_in (by decide) (by decide))) (cv_of hg wM_X12_131 wN_X12_thing wL_X12_X12_thing wK_X12_thing wI_X12 (by decide +kernel) ⟨Nat.le_of_ble_eq_true rfl, Nat.le_of_ble_eq_true rfl⟩) hK hP hD hS hA (va_recv hK hP (ci := 14) (q0 := 0) rfl rfl) rfl hl.1 rfl (Nat.le_of_ble_eq_true rfl) dX12_boxes_554 ⟨Nat.le_of_ble_eq_true rfl, Nat.le_of_ble_eq_true rfl⟩ (fun r_86 u_87 H locs q_85 hP hD hS => ?_)
      rcases q_85 with ⟨rfl, rfl, f_88⟩ | ⟨t_89, rfl, rfl, f_90, f_91, f_92⟩ | ⟨rfl, rfl, f_93, f_94⟩ | ⟨t_95, rfl, rfl, f_96, f_97, f_98⟩
      · show _
        exact absurd (by assumption) f_88
      · show _
        obtain rfl := Option.some.inj (g4.symm.trans f_91); exact absurd (g5.symm.trans f_92) (by decide)
      · show _
        exact absurd (g4.symm.trans f_94) (by simp)
      · show _
        obtain rfl := Option.some.inj (g4.symm.trans f_97)
        have hP : va_P (dC, dI) vwCl (rW g ty Y pa kp ks I tl ac wr tw) H := hP
        have hD : va_D A (rW g ty Y pa kp ks I tl ac wr tw) := hD
        refine lv_if_eq (tgt := 568) hx hb dX12_boxes_557 (by decide) (fun c9 => absurd c9 (by decide)) (fun _ => ?_)
        refine lv_aload_n hx hb dX12_boxes_560 rfl (lv_at hl 0 rfl) ?_
        refine lv_iload_n hx hb dX12_boxes_561 rfl (lv_at hl 2 rfl) ?_
        refine cV_i (C := RX12) (n := 1) (rest := []) hx hb hml hown hg hT (c_X12_need l dC dI g ty H.size Y pa kp ks I tl ac wr tw a0 (by assumption)) (cv_of hg wM_X12_134 wN_X12_need wL_X12_X12_need wK_X12_need wI_X12 (by decide +kernel) ⟨Nat.le_of_ble_eq_true rfl, Nat.le_of_ble_eq_true rfl⟩) hK hP hD hS hA (va_recv hK hP (ci := 14) (q0 := 0) rfl rfl) rfl hl.1 rfl (Nat.le_of_ble_eq_true rfl) dX12_boxes_562 ⟨Nat.le_of_ble_eq_true rfl, Nat.le_of_ble_eq_true rfl⟩ (fun r_100 u_101 H locs q_99 hP hD hS => ?_)
        rcases q_99 with ⟨rfl, rfl, f_102⟩ | ⟨rfl, rfl, f_103⟩
        · show _
          exact absurd f_102 (by assumption)
        · show _
          have hP : va_P (dC, dI) vwCl (rW g ty Y pa kp ks I tl ac wr tw) H := hP
          have hD : va_D A (rW g ty Y pa kp ks I tl ac wr tw) := hD
          refine lv_if_ne (tgt := 573) hx hb dX12_boxes_565 (by decide) (fun _ => ?_) (fun c9 => absurd c9 (by decide)) 
          refine lv_aload_n hx hb dX12_boxes_573 rfl (lv_at hl 0 rfl) ?_
          refine va_get (D := (dC, dI)) (ci := 14) (v := .ref (g 9)) (C := RX12) (T := TX12) (N := 21) hx hb hg inG12 hown hK hP 0 rfl rfl 8 (by decide) (hg _ wF_X12_34) (fun _ h9 => h9) rfl dX12_boxes_574 ?_
          refine lv_iload_n hx hb dX12_boxes_577 rfl (lv_at hl 3 rfl) ?_
          refine lv_aload_n hx hb dX12_boxes_578 rfl (lv_at hl 0 rfl) ?_
          refine lv_aload_n hx hb dX12_boxes_579 rfl (lv_at hl 0 rfl) ?_
          refine va_get (D := (dC, dI)) (ci := 14) (v := .ref (g 9)) (C := RX12) (T := TX12) (N := 21) hx hb hg inG12 hown hK hP 0 rfl rfl 8 (by decide) (hg _ wF_X12_34) (fun _ h9 => h9) rfl dX12_boxes_580 ?_
          refine lv_iload_n hx hb dX12_boxes_583 rfl (lv_at hl 2 rfl) ?_
          refine va_iald hx hb hK hP 7 0 rfl rfl (by assumption) dX12_boxes_584 ?_
          refine lv_iconst (v := 1) hx hb dX12_boxes_585 (by decide) ?_
          refine cV_l (C := RX12) (n := 2) (rest := [.int b0, .ref (g 9)]) hx hb hml hown hg hT (c_X12_cell l dC dI g ty H.size Y pa kp ks I tl ac wr tw (pa a0.toNatClampNeg) 1 (by exact hvt.1) (by exact hvt.2.1 _ (i32_in (by decide) (by decide)))) (cv_of hg wM_X12_140 wN_X12_cell wL_X12_X12_cell wK_X12_cell wI_X12 (by decide +kernel) ⟨Nat.le_of_ble_eq_true rfl, Nat.le_of_ble_eq_true rfl⟩) hK hP hD hS hA (va_recv hK hP (ci := 14) (q0 := 0) rfl rfl) rfl hl.1 rfl (Nat.le_of_ble_eq_true rfl) dX12_boxes_586 ⟨Nat.le_of_ble_eq_true rfl, Nat.le_of_ble_eq_true rfl⟩ (fun r_105 u_106 H locs q_104 hP hD hS => ?_)
          obtain rfl := q_104
          have hP : va_P (dC, dI) vwCl (rW g ty Y pa kp ks I tl ac wr tw) H := hP
          have hD : va_D A (rW g ty Y pa kp ks I tl ac wr tw) := hD
          refine lv_l2i (v := ((Y.2.2.2.2.2.1 (Y.2.1 (pa a0.toNatClampNeg).toNatClampNeg + 1).toNatClampNeg).toInt32)) hx hb dX12_boxes_589 rfl ?_
          refine va_iast hx hb hK hP hD hS 7 0 rfl rfl (by assumption) dX12_boxes_590 (fun H locs hP hD hS => ?_)
          have hP : va_P (dC, dI) vwCl (rW g ty Y (upd pa b0.toNatClampNeg ((Y.2.2.2.2.2.1 (Y.2.1 (pa a0.toNatClampNeg).toNatClampNeg + 1).toNatClampNeg).toInt32)) kp ks I tl ac wr tw) H := hP
          have hD : va_D A (rW g ty Y (upd pa b0.toNatClampNeg ((Y.2.2.2.2.2.1 (Y.2.1 (pa a0.toNatClampNeg).toNatClampNeg + 1).toNatClampNeg).toInt32)) kp ks I tl ac wr tw) := hD
          refine lv_lconst (v := 0) hx hb dX12_boxes_591 (by decide) ?_
          refine cr_l (wo := fun u : rY × (Nat → Int32) × (Nat → Int32) × (Nat → Int32) × Int32 × Int32 => rW g ty u.1 u.2.1 u.2.2.1 ks I u.2.2.2.1 ac u.2.2.2.2.1 u.2.2.2.2.2) ((Y, (upd pa b0.toNatClampNeg ((Y.2.2.2.2.2.1 (Y.2.1 (pa a0.toNatClampNeg).toNatClampNeg + 1).toNatClampNeg).toInt32)), kp, tl, wr, tw)) hx hb hr hlk hS hP hD ?_ dX12_boxes_592
          exact ⟨0, Y, (upd pa b0.toNatClampNeg ((Y.2.2.2.2.2.1 (Y.2.1 (pa a0.toNatClampNeg).toNatClampNeg + 1).toNatClampNeg).toInt32)), kp, tl, wr, tw, rfl, rfl, (by subst pre6; exact ra_w (rw_pl rel (by assumption) (ll_lk (hvt.2.2.2.1 kt) (by assumption))) ⟨rfl, rfl, rfl, rfl⟩ hcnt htl rfl)⟩
set_option maxHeartbeats 800000 in
set_option maxRecDepth 100000 in
theorem c_X12_boxes_19 (l : Launch) (dC : Nat → ClassId) (dI : Nat → Nat → Nat) (g : Nat → Nat) (ty : Nat → ClassId) (sz : Nat) (Y : rY) (pa : Nat → Int32) (kp : Nat → Int32) (ks : Int32) (I : rI) (tl : Nat → Int32) (ac : Int64) (wr : Int32) (tw : Int32) (ρ : Nat → Nat) (pl : Nat → Option Nat) (P : cQ) (md : Int32) (Z : cZ) (rz9 : Int64) (u9 : Int32) (a0 : Int32) (b0 : Int32) (c0 : Int32) (pre0 : rR Y.2.2.2.2.2.2.2.2.2.1 Y pa ρ pl P) (pre1 : cWF pl P) (pre2 : ks = 0) (pre3 : rCnt Y md) (pre4 : tl 5 = md) (pre5 : 0 ≤ md ∧ md ≤ 6000) (pre6 : tw = 0) (pre7 : q_X11_weigh a0 b0 pl ac (-1) md Z P rz9 u9) : Met l yX12_boxes (Cond.code yX12_boxes cX12_boxes 7 (some .long) :: gT) ({ frames := 3, cells := 0, slots := 0, locals := 82 }) (cP (dC, dI) (rTy ty) (rW g ty Y pa kp ks I tl ac wr tw) sz [.ref (g 8), .int 19, .int a0, .int b0, .int c0]) (va_Ql (fun (rz : Int64) (u : rY × (Nat → Int32) × (Nat → Int32) × (Nat → Int32) × Int32 × Int32) => ∃ (r' : Int64) (Y' : rY) (pa' kp' tl' : Nat → Int32) (wr' tw' : Int32), r' = rz ∧ (Y', pa', kp', tl', wr', tw') = u ∧ rAns u9 rz9 pl P md tl Y r' Y' pa' tl' wr' tw') (cB (dC, dI) (fun u : rY × (Nat → Int32) × (Nat → Int32) × (Nat → Int32) × Int32 × Int32 => rW g ty u.1 u.2.1 u.2.2.1 ks I u.2.2.2.1 ac u.2.2.2.2.1 u.2.2.2.2.2) (va_A (rW g ty Y pa kp ks I tl ac wr tw) sz)) (va_A (rW g ty Y pa kp ks I tl ac wr tw) sz)) 0 0 (va_A (rW g ty Y pa kp ks I tl ac wr tw) sz) := by
  refine cc_of (Qa := fun A => va_Ql (fun (rz : Int64) (u : rY × (Nat → Int32) × (Nat → Int32) × (Nat → Int32) × Int32 × Int32) => ∃ (r' : Int64) (Y' : rY) (pa' kp' tl' : Nat → Int32) (wr' tw' : Int32), r' = rz ∧ (Y', pa', kp', tl', wr', tw') = u ∧ rAns u9 rz9 pl P md tl Y r' Y' pa' tl' wr' tw') (cB (dC, dI) (fun u : rY × (Nat → Int32) × (Nat → Int32) × (Nat → Int32) × Int32 × Int32 => rW g ty u.1 u.2.1 u.2.2.1 ks I u.2.2.2.1 ac u.2.2.2.2.1 u.2.2.2.2.2) A) A) (by decide) (Nat.le_of_ble_eq_true rfl) ?_
  intro p e s m below meth c A hx hb hr hml hown hg hlk hmn hP hK hD hT hS hA hsz ls hl
  have hown : s.vm.findClass RX12 = some m.cls := hown
  have rel := pre0
  have wf := pre1
  have hcnt := pre3
  have htl := pre4
  rcases pre7 with ⟨rfl, rfl, g2⟩ | ⟨t, rfl, rfl, g2, g3, g4⟩ | ⟨rfl, rfl, g2, g3⟩ | ⟨t, rfl, rfl, g2, g3, g4⟩
  · show _
    have hl : lv_has ls 7 [(0, .ref (g 8)), (1, .int 19), (2, .int a0), (3, .int b0), (4, .int c0)] := hl
    refine lv_iload_n hx hb dX12_boxes_0 rfl (lv_at hl 1 rfl) ?_
    refine lv_tableOut (tgt := 593) hx hb dX12_boxes_1 (by decide) (by decide) ?_
    refine lv_aload_n hx hb dX12_boxes_593 rfl (lv_at hl 0 rfl) ?_
    refine lv_iload_n hx hb dX12_boxes_594 rfl (lv_at hl 2 rfl) ?_
    refine lv_iload_n hx hb dX12_boxes_595 rfl (lv_at hl 1 rfl) ?_
    refine lv_bipush (v := 20) hx hb dX12_boxes_596 (by decide) ?_
    refine lv_icmp_ne (tgt := 606) hx hb dX12_boxes_598 (by decide) (fun _ => ?_) (fun c9 => absurd c9 (by decide)) 
    refine lv_iload_n hx hb dX12_boxes_606 rfl (lv_at hl 1 rfl) ?_
    refine lv_bipush (v := 21) hx hb dX12_boxes_607 (by decide) ?_
    refine lv_icmp_ne (tgt := 617) hx hb dX12_boxes_609 (by decide) (fun _ => ?_) (fun c9 => absurd c9 (by decide)) 
    refine lv_bipush (v := 12) hx hb dX12_boxes_617 (by decide) ?_
    refine cV_i (C := RX12) (n := 2) (rest := []) hx hb hml hown hg hT (c_X12_thing l dC dI g ty s.heap.size Y pa kp ks I tl ac wr tw ρ pl P a0 12 (by exact rel) (by exact wf) (by exact i32_in (by decide) (by decide))) (cv_of hg wM_X12_131 wN_X12_thing wL_X12_X12_thing wK_X12_thing wI_X12 (by decide +kernel) ⟨Nat.le_of_ble_eq_true rfl, Nat.le_of_ble_eq_true rfl⟩) hK hP hD hS hA (va_recv hK hP (ci := 14) (q0 := 0) rfl rfl) rfl hl.1 rfl (Nat.le_of_ble_eq_true rfl) dX12_boxes_619 ⟨Nat.le_of_ble_eq_true rfl, Nat.le_of_ble_eq_true rfl⟩ (fun r_2 u_3 H locs q_1 hP hD hS => ?_)
    rcases q_1 with ⟨rfl, rfl, f_4⟩ | ⟨t_5, rfl, rfl, f_6, f_7, f_8⟩ | ⟨rfl, rfl, f_9, f_10⟩ | ⟨t_11, rfl, rfl, f_12, f_13, f_14⟩
    · show _
      have hP : va_P (dC, dI) vwCl (rW g ty Y pa kp ks I tl ac 2 tw) H := hP
      have hD : va_D A (rW g ty Y pa kp ks I tl ac 2 tw) := hD
      refine lv_if_eq (tgt := 633) hx hb dX12_boxes_622 (by decide) (fun _ => ?_) (fun c9 => absurd (by decide) c9) 
      refine lv_aload_n hx hb dX12_boxes_633 rfl (lv_at hl 0 rfl) ?_
      refine cV_l (C := RX12) (n := 0) (rest := []) hx hb hml hown hg hT (c_X12_no l dC dI g ty H.size Y pa kp ks I tl ac 2 tw  ) (cv_of hg wM_X12_107 wN_X12_no wL_X12_X12_no wK_X12_no wI_X12 (by decide +kernel) ⟨Nat.le_of_ble_eq_true rfl, Nat.le_of_ble_eq_true rfl⟩) hK hP hD hS hA (va_recv hK hP (ci := 14) (q0 := 0) rfl rfl) rfl hl.1 rfl (Nat.le_of_ble_eq_true rfl) dX12_boxes_634 ⟨Nat.le_of_ble_eq_true rfl, Nat.le_of_ble_eq_true rfl⟩ (fun r_16 u_17 H locs q_15 hP hD hS => ?_)
      obtain ⟨rfl, rfl⟩ := q_15
      have hP : va_P (dC, dI) vwCl (rW g ty Y pa kp ks I tl ac 2 1) H := hP
      have hD : va_D A (rW g ty Y pa kp ks I tl ac 2 1) := hD
      refine cr_l (wo := fun u : rY × (Nat → Int32) × (Nat → Int32) × (Nat → Int32) × Int32 × Int32 => rW g ty u.1 u.2.1 u.2.2.1 ks I u.2.2.2.1 ac u.2.2.2.2.1 u.2.2.2.2.2) ((Y, pa, kp, tl, 2, 1)) hx hb hr hlk hS hP hD ?_ dX12_boxes_637
      exact ⟨0, Y, pa, kp, tl, 2, 1, rfl, rfl, (by exact ra_f (f := 2) rel hcnt htl (by decide))⟩
    · show _
      exact absurd f_6 (by assumption)
    · show _
      exact absurd f_9 (by assumption)
    · show _
      exact absurd f_12 (by assumption)
  · show _
    obtain ⟨n1t, n2t, n3t⟩ := rk_some rel g2 g3
    have hnet := (i32_pos n1t).2.1
    have tht := wf.1 _ _ g3
    have hl : lv_has ls 7 [(0, .ref (g 8)), (1, .int 19), (2, .int a0), (3, .int b0), (4, .int c0)] := hl
    refine lv_iload_n hx hb dX12_boxes_0 rfl (lv_at hl 1 rfl) ?_
    refine lv_tableOut (tgt := 593) hx hb dX12_boxes_1 (by decide) (by decide) ?_
    refine lv_aload_n hx hb dX12_boxes_593 rfl (lv_at hl 0 rfl) ?_
    refine lv_iload_n hx hb dX12_boxes_594 rfl (lv_at hl 2 rfl) ?_
    refine lv_iload_n hx hb dX12_boxes_595 rfl (lv_at hl 1 rfl) ?_
    refine lv_bipush (v := 20) hx hb dX12_boxes_596 (by decide) ?_
    refine lv_icmp_ne (tgt := 606) hx hb dX12_boxes_598 (by decide) (fun _ => ?_) (fun c9 => absurd c9 (by decide)) 
    refine lv_iload_n hx hb dX12_boxes_606 rfl (lv_at hl 1 rfl) ?_
    refine lv_bipush (v := 21) hx hb dX12_boxes_607 (by decide) ?_
    refine lv_icmp_ne (tgt := 617) hx hb dX12_boxes_609 (by decide) (fun _ => ?_) (fun c9 => absurd c9 (by decide)) 
    refine lv_bipush (v := 12) hx hb dX12_boxes_617 (by decide) ?_
    refine cV_i (C := RX12) (n := 2) (rest := []) hx hb hml hown hg hT (c_X12_thing l dC dI g ty s.heap.size Y pa kp ks I tl ac wr tw ρ pl P a0 12 (by exact rel) (by exact wf) (by exact i32_in (by decide) (by decide))) (cv_of hg wM_X12_131 wN_X12_thing wL_X12_X12_thing wK_X12_thing wI_X12 (by decide +kernel) ⟨Nat.le_of_ble_eq_true rfl, Nat.le_of_ble_eq_true rfl⟩) hK hP hD hS hA (va_recv hK hP (ci := 14) (q0 := 0) rfl rfl) rfl hl.1 rfl (Nat.le_of_ble_eq_true rfl) dX12_boxes_619 ⟨Nat.le_of_ble_eq_true rfl, Nat.le_of_ble_eq_true rfl⟩ (fun r_19 u_20 H locs q_18 hP hD hS => ?_)
    rcases q_18 with ⟨rfl, rfl, f_21⟩ | ⟨t_22, rfl, rfl, f_23, f_24, f_25⟩ | ⟨rfl, rfl, f_26, f_27⟩ | ⟨t_28, rfl, rfl, f_29, f_30, f_31⟩
    · show _
      exact absurd (by assumption) f_21
    · show _
      obtain rfl := Option.some.inj (g3.symm.trans f_24)
      have hP : va_P (dC, dI) vwCl (rW g ty Y pa kp ks I tl ac 3 tw) H := hP
      have hD : va_D A (rW g ty Y pa kp ks I tl ac 3 tw) := hD
      refine lv_if_eq (tgt := 633) hx hb dX12_boxes_622 (by decide) (fun _ => ?_) (fun c9 => absurd (by decide) c9) 
      refine lv_aload_n hx hb dX12_boxes_633 rfl (lv_at hl 0 rfl) ?_
      refine cV_l (C := RX12) (n := 0) (rest := []) hx hb hml hown hg hT (c_X12_no l dC dI g ty H.size Y pa kp ks I tl ac 3 tw  ) (cv_of hg wM_X12_107 wN_X12_no wL_X12_X12_no wK_X12_no wI_X12 (by decide +kernel) ⟨Nat.le_of_ble_eq_true rfl, Nat.le_of_ble_eq_true rfl⟩) hK hP hD hS hA (va_recv hK hP (ci := 14) (q0 := 0) rfl rfl) rfl hl.1 rfl (Nat.le_of_ble_eq_true rfl) dX12_boxes_634 ⟨Nat.le_of_ble_eq_true rfl, Nat.le_of_ble_eq_true rfl⟩ (fun r_33 u_34 H locs q_32 hP hD hS => ?_)
      obtain ⟨rfl, rfl⟩ := q_32
      have hP : va_P (dC, dI) vwCl (rW g ty Y pa kp ks I tl ac 3 1) H := hP
      have hD : va_D A (rW g ty Y pa kp ks I tl ac 3 1) := hD
      refine cr_l (wo := fun u : rY × (Nat → Int32) × (Nat → Int32) × (Nat → Int32) × Int32 × Int32 => rW g ty u.1 u.2.1 u.2.2.1 ks I u.2.2.2.1 ac u.2.2.2.2.1 u.2.2.2.2.2) ((Y, pa, kp, tl, 3, 1)) hx hb hr hlk hS hP hD ?_ dX12_boxes_637
      exact ⟨0, Y, pa, kp, tl, 3, 1, rfl, rfl, (by exact ra_f (f := 3) rel hcnt htl (by decide))⟩
    · show _
      exact absurd (g3.symm.trans f_27) (by simp)
    · show _
      obtain rfl := Option.some.inj (g3.symm.trans f_30); exact absurd (g4.symm.trans f_31) (by decide)
  · show _
    have hza0 := rk_none rel g2 g3
    have hl : lv_has ls 7 [(0, .ref (g 8)), (1, .int 19), (2, .int a0), (3, .int b0), (4, .int c0)] := hl
    refine lv_iload_n hx hb dX12_boxes_0 rfl (lv_at hl 1 rfl) ?_
    refine lv_tableOut (tgt := 593) hx hb dX12_boxes_1 (by decide) (by decide) ?_
    refine lv_aload_n hx hb dX12_boxes_593 rfl (lv_at hl 0 rfl) ?_
    refine lv_iload_n hx hb dX12_boxes_594 rfl (lv_at hl 2 rfl) ?_
    refine lv_iload_n hx hb dX12_boxes_595 rfl (lv_at hl 1 rfl) ?_
    refine lv_bipush (v := 20) hx hb dX12_boxes_596 (by decide) ?_
    refine lv_icmp_ne (tgt := 606) hx hb dX12_boxes_598 (by decide) (fun _ => ?_) (fun c9 => absurd c9 (by decide)) 
    refine lv_iload_n hx hb dX12_boxes_606 rfl (lv_at hl 1 rfl) ?_
    refine lv_bipush (v := 21) hx hb dX12_boxes_607 (by decide) ?_
    refine lv_icmp_ne (tgt := 617) hx hb dX12_boxes_609 (by decide) (fun _ => ?_) (fun c9 => absurd c9 (by decide)) 
    refine lv_bipush (v := 12) hx hb dX12_boxes_617 (by decide) ?_
    refine cV_i (C := RX12) (n := 2) (rest := []) hx hb hml hown hg hT (c_X12_thing l dC dI g ty s.heap.size Y pa kp ks I tl ac wr tw ρ pl P a0 12 (by exact rel) (by exact wf) (by exact i32_in (by decide) (by decide))) (cv_of hg wM_X12_131 wN_X12_thing wL_X12_X12_thing wK_X12_thing wI_X12 (by decide +kernel) ⟨Nat.le_of_ble_eq_true rfl, Nat.le_of_ble_eq_true rfl⟩) hK hP hD hS hA (va_recv hK hP (ci := 14) (q0 := 0) rfl rfl) rfl hl.1 rfl (Nat.le_of_ble_eq_true rfl) dX12_boxes_619 ⟨Nat.le_of_ble_eq_true rfl, Nat.le_of_ble_eq_true rfl⟩ (fun r_36 u_37 H locs q_35 hP hD hS => ?_)
    rcases q_35 with ⟨rfl, rfl, f_38⟩ | ⟨t_39, rfl, rfl, f_40, f_41, f_42⟩ | ⟨rfl, rfl, f_43, f_44⟩ | ⟨t_45, rfl, rfl, f_46, f_47, f_48⟩
    · show _
      exact absurd (by assumption) f_38
    · show _
      exact absurd (g3.symm.trans f_41) (by simp)
    · show _
      have hP : va_P (dC, dI) vwCl (rW g ty Y pa kp ks I tl ac wr tw) H := hP
      have hD : va_D A (rW g ty Y pa kp ks I tl ac wr tw) := hD
      refine lv_if_eq (tgt := 633) hx hb dX12_boxes_622 (by decide) (fun c9 => absurd c9 (by decide)) (fun _ => ?_)
      refine lv_aload_n hx hb dX12_boxes_625 rfl (lv_at hl 0 rfl) ?_
      refine lv_iload_n hx hb dX12_boxes_626 rfl (lv_at hl 2 rfl) ?_
      refine cV_i (C := RX12) (n := 1) (rest := []) hx hb hml hown hg hT (c_X12_need l dC dI g ty H.size Y pa kp ks I tl ac wr tw a0 (by assumption)) (cv_of hg wM_X12_134 wN_X12_need wL_X12_X12_need wK_X12_need wI_X12 (by decide +kernel) ⟨Nat.le_of_ble_eq_true rfl, Nat.le_of_ble_eq_true rfl⟩) hK hP hD hS hA (va_recv hK hP (ci := 14) (q0 := 0) rfl rfl) rfl hl.1 rfl (Nat.le_of_ble_eq_true rfl) dX12_boxes_627 ⟨Nat.le_of_ble_eq_true rfl, Nat.le_of_ble_eq_true rfl⟩ (fun r_50 u_51 H locs q_49 hP hD hS => ?_)
      rcases q_49 with ⟨rfl, rfl, f_52⟩ | ⟨rfl, rfl, f_53⟩
      · show _
        have hP : va_P (dC, dI) vwCl (rW g ty Y pa kp ks I tl ac 1 tw) H := hP
        have hD : va_D A (rW g ty Y pa kp ks I tl ac 1 tw) := hD
        refine lv_if_ne (tgt := 638) hx hb dX12_boxes_630 (by decide) (fun c9 => absurd (by decide) c9) (fun _ => ?_)
        refine lv_aload_n hx hb dX12_boxes_633 rfl (lv_at hl 0 rfl) ?_
        refine cV_l (C := RX12) (n := 0) (rest := []) hx hb hml hown hg hT (c_X12_no l dC dI g ty H.size Y pa kp ks I tl ac 1 tw  ) (cv_of hg wM_X12_107 wN_X12_no wL_X12_X12_no wK_X12_no wI_X12 (by decide +kernel) ⟨Nat.le_of_ble_eq_true rfl, Nat.le_of_ble_eq_true rfl⟩) hK hP hD hS hA (va_recv hK hP (ci := 14) (q0 := 0) rfl rfl) rfl hl.1 rfl (Nat.le_of_ble_eq_true rfl) dX12_boxes_634 ⟨Nat.le_of_ble_eq_true rfl, Nat.le_of_ble_eq_true rfl⟩ (fun r_55 u_56 H locs q_54 hP hD hS => ?_)
        obtain ⟨rfl, rfl⟩ := q_54
        have hP : va_P (dC, dI) vwCl (rW g ty Y pa kp ks I tl ac 1 1) H := hP
        have hD : va_D A (rW g ty Y pa kp ks I tl ac 1 1) := hD
        refine cr_l (wo := fun u : rY × (Nat → Int32) × (Nat → Int32) × (Nat → Int32) × Int32 × Int32 => rW g ty u.1 u.2.1 u.2.2.1 ks I u.2.2.2.1 ac u.2.2.2.2.1 u.2.2.2.2.2) ((Y, pa, kp, tl, 1, 1)) hx hb hr hlk hS hP hD ?_ dX12_boxes_637
        exact ⟨0, Y, pa, kp, tl, 1, 1, rfl, rfl, (by exact ra_f (f := 1) rel hcnt htl (by decide))⟩
      · show _
        exact absurd (by assumption) f_53
    · show _
      exact absurd (g3.symm.trans f_47) (by simp)
  · show _
    obtain ⟨n1t, n2t, n3t⟩ := rk_some rel g2 g3
    have hnet := (i32_pos n1t).2.1
    have tht := wf.1 _ _ g3
    have kt := cIs_2 (ki_12 wf tht.1 tht.2 g4)
    have hvt := rv_box rel n1t n2t n3t (by omega)
    have hsr := rv_sr rel n1t n2t n3t
    have hl : lv_has ls 7 [(0, .ref (g 8)), (1, .int 19), (2, .int a0), (3, .int b0), (4, .int c0)] := hl
    refine lv_iload_n hx hb dX12_boxes_0 rfl (lv_at hl 1 rfl) ?_
    refine lv_tableOut (tgt := 593) hx hb dX12_boxes_1 (by decide) (by decide) ?_
    refine lv_aload_n hx hb dX12_boxes_593 rfl (lv_at hl 0 rfl) ?_
    refine lv_iload_n hx hb dX12_boxes_594 rfl (lv_at hl 2 rfl) ?_
    refine lv_iload_n hx hb dX12_boxes_595 rfl (lv_at hl 1 rfl) ?_
    refine lv_bipush (v := 20) hx hb dX12_boxes_596 (by decide) ?_
    refine lv_icmp_ne (tgt := 606) hx hb dX12_boxes_598 (by decide) (fun _ => ?_) (fun c9 => absurd c9 (by decide)) 
    refine lv_iload_n hx hb dX12_boxes_606 rfl (lv_at hl 1 rfl) ?_
    refine lv_bipush (v := 21) hx hb dX12_boxes_607 (by decide) ?_
    refine lv_icmp_ne (tgt := 617) hx hb dX12_boxes_609 (by decide) (fun _ => ?_) (fun c9 => absurd c9 (by decide)) 
    refine lv_bipush (v := 12) hx hb dX12_boxes_617 (by decide) ?_
    refine cV_i (C := RX12) (n := 2) (rest := []) hx hb hml hown hg hT (c_X12_thing l dC dI g ty s.heap.size Y pa kp ks I tl ac wr tw ρ pl P a0 12 (by exact rel) (by exact wf) (by exact i32_in (by decide) (by decide))) (cv_of hg wM_X12_131 wN_X12_thing wL_X12_X12_thing wK_X12_thing wI_X12 (by decide +kernel) ⟨Nat.le_of_ble_eq_true rfl, Nat.le_of_ble_eq_true rfl⟩) hK hP hD hS hA (va_recv hK hP (ci := 14) (q0 := 0) rfl rfl) rfl hl.1 rfl (Nat.le_of_ble_eq_true rfl) dX12_boxes_619 ⟨Nat.le_of_ble_eq_true rfl, Nat.le_of_ble_eq_true rfl⟩ (fun r_58 u_59 H locs q_57 hP hD hS => ?_)
    rcases q_57 with ⟨rfl, rfl, f_60⟩ | ⟨t_61, rfl, rfl, f_62, f_63, f_64⟩ | ⟨rfl, rfl, f_65, f_66⟩ | ⟨t_67, rfl, rfl, f_68, f_69, f_70⟩
    · show _
      exact absurd (by assumption) f_60
    · show _
      obtain rfl := Option.some.inj (g3.symm.trans f_63); exact absurd (g4.symm.trans f_64) (by decide)
    · show _
      exact absurd (g3.symm.trans f_66) (by simp)
    · show _
      obtain rfl := Option.some.inj (g3.symm.trans f_69)
      have hP : va_P (dC, dI) vwCl (rW g ty Y pa kp ks I tl ac wr tw) H := hP
      have hD : va_D A (rW g ty Y pa kp ks I tl ac wr tw) := hD
      refine lv_if_eq (tgt := 633) hx hb dX12_boxes_622 (by decide) (fun c9 => absurd c9 (by decide)) (fun _ => ?_)
      refine lv_aload_n hx hb dX12_boxes_625 rfl (lv_at hl 0 rfl) ?_
      refine lv_iload_n hx hb dX12_boxes_626 rfl (lv_at hl 2 rfl) ?_
      refine cV_i (C := RX12) (n := 1) (rest := []) hx hb hml hown hg hT (c_X12_need l dC dI g ty H.size Y pa kp ks I tl ac wr tw a0 (by assumption)) (cv_of hg wM_X12_134 wN_X12_need wL_X12_X12_need wK_X12_need wI_X12 (by decide +kernel) ⟨Nat.le_of_ble_eq_true rfl, Nat.le_of_ble_eq_true rfl⟩) hK hP hD hS hA (va_recv hK hP (ci := 14) (q0 := 0) rfl rfl) rfl hl.1 rfl (Nat.le_of_ble_eq_true rfl) dX12_boxes_627 ⟨Nat.le_of_ble_eq_true rfl, Nat.le_of_ble_eq_true rfl⟩ (fun r_72 u_73 H locs q_71 hP hD hS => ?_)
      rcases q_71 with ⟨rfl, rfl, f_74⟩ | ⟨rfl, rfl, f_75⟩
      · show _
        exact absurd f_74 (by assumption)
      · show _
        have hP : va_P (dC, dI) vwCl (rW g ty Y pa kp ks I tl ac wr tw) H := hP
        have hD : va_D A (rW g ty Y pa kp ks I tl ac wr tw) := hD
        refine lv_if_ne (tgt := 638) hx hb dX12_boxes_630 (by decide) (fun _ => ?_) (fun c9 => absurd c9 (by decide)) 
        refine lv_aload_n hx hb dX12_boxes_638 rfl (lv_at hl 0 rfl) ?_
        refine va_get (D := (dC, dI)) (ci := 14) (v := .ref (g 9)) (C := RX12) (T := TX12) (N := 21) hx hb hg inG12 hown hK hP 0 rfl rfl 8 (by decide) (hg _ wF_X12_34) (fun _ h9 => h9) rfl dX12_boxes_639 ?_
        refine lv_iload_n hx hb dX12_boxes_642 rfl (lv_at hl 2 rfl) ?_
        refine va_iald hx hb hK hP 7 0 rfl rfl (by assumption) dX12_boxes_643 ?_
        refine lv_istore (lv' := [(5, .int (pa a0.toNatClampNeg)), (0, .ref (g 8)), (1, .int 19), (2, .int a0), (3, .int b0), (4, .int c0)]) hx hb dX12_boxes_644 hl (by decide) rfl (fun ls hl => ?_)
        refine lv_aload_n hx hb dX12_boxes_646 rfl (lv_at hl 1 rfl) ?_
        refine lv_iload hx hb dX12_boxes_647 (lv_at hl 0 rfl) ?_
        refine lv_iconst (v := 0) hx hb dX12_boxes_649 (by decide) ?_
        refine cV_l (C := RX12) (n := 2) (rest := []) hx hb hml hown hg hT (c_X12_cell l dC dI g ty H.size Y pa kp ks I tl ac wr tw (pa a0.toNatClampNeg) 0 (by exact hvt.1) (by exact hvt.2.1 _ (i32_in (by decide) (by decide)))) (cv_of hg wM_X12_140 wN_X12_cell wL_X12_X12_cell wK_X12_cell wI_X12 (by decide +kernel) ⟨Nat.le_of_ble_eq_true rfl, Nat.le_of_ble_eq_true rfl⟩) hK hP hD hS hA (va_recv hK hP (ci := 14) (q0 := 0) rfl rfl) rfl hl.1 rfl (Nat.le_of_ble_eq_true rfl) dX12_boxes_650 ⟨Nat.le_of_ble_eq_true rfl, Nat.le_of_ble_eq_true rfl⟩ (fun r_77 u_78 H locs q_76 hP hD hS => ?_)
        obtain rfl := q_76
        have hP : va_P (dC, dI) vwCl (rW g ty Y pa kp ks I tl ac wr tw) H := hP
        have hD : va_D A (rW g ty Y pa kp ks I tl ac wr tw) := hD
        refine lv_l2i (v := ((Y.2.2.2.2.2.1 (Y.2.1 (pa a0.toNatClampNeg).toNatClampNeg + 0).toNatClampNeg).toInt32)) hx hb dX12_boxes_653 rfl ?_
        refine lv_topi (fun v9 ev90 => ?_)
        have ev9 : v9 = ((Y.2.2.2.2.2.1 (Y.2.1 (pa a0.toNatClampNeg).toNatClampNeg + 0).toNatClampNeg).toInt32) := ev90
        obtain rfl : v9 = P.2.2.1 t := by rw [ev9, hvt.2.2.1, i64_32]
        refine lv_istore (lv' := [(6, .int (P.2.2.1 t)), (5, .int (pa a0.toNatClampNeg)), (0, .ref (g 8)), (1, .int 19), (2, .int a0), (3, .int b0), (4, .int c0)]) hx hb dX12_boxes_654 hl (by decide) rfl (fun ls hl => ?_)
        refine lv_iload_n hx hb dX12_boxes_656 rfl (lv_at hl 3 rfl) ?_
        refine lv_bipush (v := 15) hx hb dX12_boxes_657 (by decide) ?_
        refine lv_icmp_ne (tgt := 666) hx hb dX12_boxes_659 (by decide) (fun _ => ?_) (fun c9 => absurd c9 (by decide)) 
        refine lv_iload_n hx hb dX12_boxes_666 rfl (lv_at hl 3 rfl) ?_
        refine lv_bipush (v := 16) hx hb dX12_boxes_667 (by decide) ?_
        refine lv_icmp_ne (tgt := 689) hx hb dX12_boxes_669 (by decide) (fun _ => ?_) (fun c9 => absurd c9 (by decide)) 
        refine lv_iload_n hx hb dX12_boxes_689 rfl (lv_at hl 3 rfl) ?_
        refine lv_bipush (v := 19) hx hb dX12_boxes_690 (by decide) ?_
        refine lv_icmp_ne (tgt := 749) hx hb dX12_boxes_692 (by decide) (fun c9 => absurd (by decide) c9) (fun _ => ?_)
        refine lv_aload_n hx hb dX12_boxes_695 rfl (lv_at hl 2 rfl) ?_
        refine va_get (D := (dC, dI)) (ci := 14) (v := .ref (Y.2.2.2.2.2.2.1 0)) (C := RX12) (T := TX12) (N := 21) hx hb hg inG12 hown hK hP 0 rfl rfl 0 (by decide) (hg _ wF_X12_7) (fun _ h9 => h9) rfl dX12_boxes_696 ?_
        refine lv_iload hx hb dX12_boxes_699 (lv_at hl 1 rfl) ?_
        refine va_iald hx hb hK hP 1 0 rfl rfl (by exact hvt.1) dX12_boxes_701 ?_
        refine lv_bipush (v := 12) hx hb dX12_boxes_702 (by decide) ?_
        refine lv_icmp_ne (tgt := 717) hx hb dX12_boxes_704 (by decide) (fun c_79 => ?_) (fun c_79 => ?_)
        · show _
          refine lv_aload_n hx hb dX12_boxes_717 rfl (lv_at hl 2 rfl) ?_
          refine va_get (D := (dC, dI)) (ci := 14) (v := .ref (Y.2.2.2.2.2.2.1 0)) (C := RX12) (T := TX12) (N := 21) hx hb hg inG12 hown hK hP 0 rfl rfl 0 (by decide) (hg _ wF_X12_7) (fun _ h9 => h9) rfl dX12_boxes_718 ?_
          refine lv_iload hx hb dX12_boxes_721 (lv_at hl 1 rfl) ?_
          refine va_iald hx hb hK hP 1 0 rfl rfl (by exact hvt.1) dX12_boxes_723 ?_
          refine lv_bipush (v := 13) hx hb dX12_boxes_724 (by decide) ?_
          refine lv_icmp_ne (tgt := 739) hx hb dX12_boxes_726 (by decide) (fun c_80 => ?_) (fun c_80 => ?_)
          · show _
            refine lv_iload hx hb dX12_boxes_739 (lv_at hl 0 rfl) ?_
            refine lv_iconst (v := 5) hx hb dX12_boxes_741 (by decide) ?_
            refine lv_imul hx hb dX12_boxes_742 ?_
            refine lv_iload_n hx hb dX12_boxes_743 rfl (lv_at hl 5 rfl) ?_
            refine lv_isub hx hb dX12_boxes_744 ?_
            refine lv_iconst (v := 1) hx hb dX12_boxes_745 (by decide) ?_
            refine lv_iadd hx hb dX12_boxes_746 ?_
            refine lv_i2l (v := (((((P.2.2.1 t) * 5) - b0) + 1).toInt64)) hx hb dX12_boxes_747 rfl ?_
            refine cr_l (wo := fun u : rY × (Nat → Int32) × (Nat → Int32) × (Nat → Int32) × Int32 × Int32 => rW g ty u.1 u.2.1 u.2.2.1 ks I u.2.2.2.1 ac u.2.2.2.2.1 u.2.2.2.2.2) ((Y, pa, kp, tl, wr, tw)) hx hb hr hlk hS hP hD ?_ dX12_boxes_748
            exact ⟨(((((P.2.2.1 t) * 5) - b0) + 1).toInt64), Y, pa, kp, tl, wr, tw, rfl, rfl, (by subst pre6; exact ra_ok rel hcnt htl (congrArg Int32.toInt64 (wg_0 hsr kt c_79 c_80)))⟩
          · show _
            refine lv_iload hx hb dX12_boxes_729 (lv_at hl 0 rfl) ?_
            refine lv_iconst (v := 5) hx hb dX12_boxes_731 (by decide) ?_
            refine lv_imul hx hb dX12_boxes_732 ?_
            refine lv_iload_n hx hb dX12_boxes_733 rfl (lv_at hl 5 rfl) ?_
            refine lv_isub hx hb dX12_boxes_734 ?_
            refine lv_i2l (v := ((((P.2.2.1 t) * 5) - b0).toInt64)) hx hb dX12_boxes_735 rfl ?_
            refine lv_goto (tgt := 748) hx hb dX12_boxes_736 (by decide) ?_
            refine cr_l (wo := fun u : rY × (Nat → Int32) × (Nat → Int32) × (Nat → Int32) × Int32 × Int32 => rW g ty u.1 u.2.1 u.2.2.1 ks I u.2.2.2.1 ac u.2.2.2.2.1 u.2.2.2.2.2) ((Y, pa, kp, tl, wr, tw)) hx hb hr hlk hS hP hD ?_ dX12_boxes_748
            exact ⟨((((P.2.2.1 t) * 5) - b0).toInt64), Y, pa, kp, tl, wr, tw, rfl, rfl, (by subst pre6; exact ra_ok rel hcnt htl (congrArg Int32.toInt64 (wg_1 hsr kt c_80)))⟩
        · show _
          refine lv_iload hx hb dX12_boxes_707 (lv_at hl 0 rfl) ?_
          refine lv_iconst (v := 3) hx hb dX12_boxes_709 (by decide) ?_
          refine lv_imul hx hb dX12_boxes_710 ?_
          refine lv_iload_n hx hb dX12_boxes_711 rfl (lv_at hl 5 rfl) ?_
          refine lv_iadd hx hb dX12_boxes_712 ?_
          refine lv_i2l (v := ((((P.2.2.1 t) * 3) + b0).toInt64)) hx hb dX12_boxes_713 rfl ?_
          refine lv_goto (tgt := 748) hx hb dX12_boxes_714 (by decide) ?_
          refine cr_l (wo := fun u : rY × (Nat → Int32) × (Nat → Int32) × (Nat → Int32) × Int32 × Int32 => rW g ty u.1 u.2.1 u.2.2.1 ks I u.2.2.2.1 ac u.2.2.2.2.1 u.2.2.2.2.2) ((Y, pa, kp, tl, wr, tw)) hx hb hr hlk hS hP hD ?_ dX12_boxes_748
          exact ⟨((((P.2.2.1 t) * 3) + b0).toInt64), Y, pa, kp, tl, wr, tw, rfl, rfl, (by subst pre6; exact ra_ok rel hcnt htl (congrArg Int32.toInt64 (wg_2 hsr kt c_79)))⟩
set_option maxHeartbeats 800000 in
set_option maxRecDepth 100000 in
theorem c_X12_boxes_20 (l : Launch) (dC : Nat → ClassId) (dI : Nat → Nat → Nat) (g : Nat → Nat) (ty : Nat → ClassId) (sz : Nat) (Y : rY) (pa : Nat → Int32) (kp : Nat → Int32) (ks : Int32) (I : rI) (tl : Nat → Int32) (ac : Int64) (wr : Int32) (tw : Int32) (ρ : Nat → Nat) (pl : Nat → Option Nat) (P : cQ) (md : Int32) (Z : cZ) (rz9 : Int64) (u9 : Int32) (a0 : Int32) (b0 : Int32) (c0 : Int32) (pre0 : rR Y.2.2.2.2.2.2.2.2.2.1 Y pa ρ pl P) (pre1 : cWF pl P) (pre2 : ks = 0) (pre3 : rCnt Y md) (pre4 : tl 5 = md) (pre5 : 0 ≤ md ∧ md ≤ 6000) (pre6 : tw = 0) (pre7 : q_X11_roll a0 b0 pl ac (-1) md Z P rz9 u9) : Met l yX12_boxes (Cond.code yX12_boxes cX12_boxes 7 (some .long) :: gT) ({ frames := 3, cells := 0, slots := 0, locals := 82 }) (cP (dC, dI) (rTy ty) (rW g ty Y pa kp ks I tl ac wr tw) sz [.ref (g 8), .int 20, .int a0, .int b0, .int c0]) (va_Ql (fun (rz : Int64) (u : rY × (Nat → Int32) × (Nat → Int32) × (Nat → Int32) × Int32 × Int32) => ∃ (r' : Int64) (Y' : rY) (pa' kp' tl' : Nat → Int32) (wr' tw' : Int32), r' = rz ∧ (Y', pa', kp', tl', wr', tw') = u ∧ rAns u9 rz9 pl P md tl Y r' Y' pa' tl' wr' tw') (cB (dC, dI) (fun u : rY × (Nat → Int32) × (Nat → Int32) × (Nat → Int32) × Int32 × Int32 => rW g ty u.1 u.2.1 u.2.2.1 ks I u.2.2.2.1 ac u.2.2.2.2.1 u.2.2.2.2.2) (va_A (rW g ty Y pa kp ks I tl ac wr tw) sz)) (va_A (rW g ty Y pa kp ks I tl ac wr tw) sz)) 0 0 (va_A (rW g ty Y pa kp ks I tl ac wr tw) sz) := by
  refine cc_of (Qa := fun A => va_Ql (fun (rz : Int64) (u : rY × (Nat → Int32) × (Nat → Int32) × (Nat → Int32) × Int32 × Int32) => ∃ (r' : Int64) (Y' : rY) (pa' kp' tl' : Nat → Int32) (wr' tw' : Int32), r' = rz ∧ (Y', pa', kp', tl', wr', tw') = u ∧ rAns u9 rz9 pl P md tl Y r' Y' pa' tl' wr' tw') (cB (dC, dI) (fun u : rY × (Nat → Int32) × (Nat → Int32) × (Nat → Int32) × Int32 × Int32 => rW g ty u.1 u.2.1 u.2.2.1 ks I u.2.2.2.1 ac u.2.2.2.2.1 u.2.2.2.2.2) A) A) (by decide) (Nat.le_of_ble_eq_true rfl) ?_
  intro p e s m below meth c A hx hb hr hml hown hg hlk hmn hP hK hD hT hS hA hsz ls hl
  have hown : s.vm.findClass RX12 = some m.cls := hown
  have rel := pre0
  have wf := pre1
  have hcnt := pre3
  have htl := pre4
  rcases pre7 with ⟨rfl, rfl, g2⟩ | ⟨t, rfl, rfl, g2, g3, g4⟩ | ⟨rfl, rfl, g2, g3⟩ | ⟨t, rfl, rfl, g2, g3, g4⟩
  · show _
    have hl : lv_has ls 7 [(0, .ref (g 8)), (1, .int 20), (2, .int a0), (3, .int b0), (4, .int c0)] := hl
    refine lv_iload_n hx hb dX12_boxes_0 rfl (lv_at hl 1 rfl) ?_
    refine lv_tableOut (tgt := 593) hx hb dX12_boxes_1 (by decide) (by decide) ?_
    refine lv_aload_n hx hb dX12_boxes_593 rfl (lv_at hl 0 rfl) ?_
    refine lv_iload_n hx hb dX12_boxes_594 rfl (lv_at hl 2 rfl) ?_
    refine lv_iload_n hx hb dX12_boxes_595 rfl (lv_at hl 1 rfl) ?_
    refine lv_bipush (v := 20) hx hb dX12_boxes_596 (by decide) ?_
    refine lv_icmp_ne (tgt := 606) hx hb dX12_boxes_598 (by decide) (fun c9 => absurd (by decide) c9) (fun _ => ?_)
    refine lv_bipush (v := 14) hx hb dX12_boxes_601 (by decide) ?_
    refine lv_goto (tgt := 619) hx hb dX12_boxes_603 (by decide) ?_
    refine cV_i (C := RX12) (n := 2) (rest := []) hx hb hml hown hg hT (c_X12_thing l dC dI g ty s.heap.size Y pa kp ks I tl ac wr tw ρ pl P a0 14 (by exact rel) (by exact wf) (by exact i32_in (by decide) (by decide))) (cv_of hg wM_X12_131 wN_X12_thing wL_X12_X12_thing wK_X12_thing wI_X12 (by decide +kernel) ⟨Nat.le_of_ble_eq_true rfl, Nat.le_of_ble_eq_true rfl⟩) hK hP hD hS hA (va_recv hK hP (ci := 14) (q0 := 0) rfl rfl) rfl hl.1 rfl (Nat.le_of_ble_eq_true rfl) dX12_boxes_619 ⟨Nat.le_of_ble_eq_true rfl, Nat.le_of_ble_eq_true rfl⟩ (fun r_2 u_3 H locs q_1 hP hD hS => ?_)
    rcases q_1 with ⟨rfl, rfl, f_4⟩ | ⟨t_5, rfl, rfl, f_6, f_7, f_8⟩ | ⟨rfl, rfl, f_9, f_10⟩ | ⟨t_11, rfl, rfl, f_12, f_13, f_14⟩
    · show _
      have hP : va_P (dC, dI) vwCl (rW g ty Y pa kp ks I tl ac 2 tw) H := hP
      have hD : va_D A (rW g ty Y pa kp ks I tl ac 2 tw) := hD
      refine lv_if_eq (tgt := 633) hx hb dX12_boxes_622 (by decide) (fun _ => ?_) (fun c9 => absurd (by decide) c9) 
      refine lv_aload_n hx hb dX12_boxes_633 rfl (lv_at hl 0 rfl) ?_
      refine cV_l (C := RX12) (n := 0) (rest := []) hx hb hml hown hg hT (c_X12_no l dC dI g ty H.size Y pa kp ks I tl ac 2 tw  ) (cv_of hg wM_X12_107 wN_X12_no wL_X12_X12_no wK_X12_no wI_X12 (by decide +kernel) ⟨Nat.le_of_ble_eq_true rfl, Nat.le_of_ble_eq_true rfl⟩) hK hP hD hS hA (va_recv hK hP (ci := 14) (q0 := 0) rfl rfl) rfl hl.1 rfl (Nat.le_of_ble_eq_true rfl) dX12_boxes_634 ⟨Nat.le_of_ble_eq_true rfl, Nat.le_of_ble_eq_true rfl⟩ (fun r_16 u_17 H locs q_15 hP hD hS => ?_)
      obtain ⟨rfl, rfl⟩ := q_15
      have hP : va_P (dC, dI) vwCl (rW g ty Y pa kp ks I tl ac 2 1) H := hP
      have hD : va_D A (rW g ty Y pa kp ks I tl ac 2 1) := hD
      refine cr_l (wo := fun u : rY × (Nat → Int32) × (Nat → Int32) × (Nat → Int32) × Int32 × Int32 => rW g ty u.1 u.2.1 u.2.2.1 ks I u.2.2.2.1 ac u.2.2.2.2.1 u.2.2.2.2.2) ((Y, pa, kp, tl, 2, 1)) hx hb hr hlk hS hP hD ?_ dX12_boxes_637
      exact ⟨0, Y, pa, kp, tl, 2, 1, rfl, rfl, (by exact ra_f (f := 2) rel hcnt htl (by decide))⟩
    · show _
      exact absurd f_6 (by assumption)
    · show _
      exact absurd f_9 (by assumption)
    · show _
      exact absurd f_12 (by assumption)
  · show _
    obtain ⟨n1t, n2t, n3t⟩ := rk_some rel g2 g3
    have hnet := (i32_pos n1t).2.1
    have tht := wf.1 _ _ g3
    have hl : lv_has ls 7 [(0, .ref (g 8)), (1, .int 20), (2, .int a0), (3, .int b0), (4, .int c0)] := hl
    refine lv_iload_n hx hb dX12_boxes_0 rfl (lv_at hl 1 rfl) ?_
    refine lv_tableOut (tgt := 593) hx hb dX12_boxes_1 (by decide) (by decide) ?_
    refine lv_aload_n hx hb dX12_boxes_593 rfl (lv_at hl 0 rfl) ?_
    refine lv_iload_n hx hb dX12_boxes_594 rfl (lv_at hl 2 rfl) ?_
    refine lv_iload_n hx hb dX12_boxes_595 rfl (lv_at hl 1 rfl) ?_
    refine lv_bipush (v := 20) hx hb dX12_boxes_596 (by decide) ?_
    refine lv_icmp_ne (tgt := 606) hx hb dX12_boxes_598 (by decide) (fun c9 => absurd (by decide) c9) (fun _ => ?_)
    refine lv_bipush (v := 14) hx hb dX12_boxes_601 (by decide) ?_
    refine lv_goto (tgt := 619) hx hb dX12_boxes_603 (by decide) ?_
    refine cV_i (C := RX12) (n := 2) (rest := []) hx hb hml hown hg hT (c_X12_thing l dC dI g ty s.heap.size Y pa kp ks I tl ac wr tw ρ pl P a0 14 (by exact rel) (by exact wf) (by exact i32_in (by decide) (by decide))) (cv_of hg wM_X12_131 wN_X12_thing wL_X12_X12_thing wK_X12_thing wI_X12 (by decide +kernel) ⟨Nat.le_of_ble_eq_true rfl, Nat.le_of_ble_eq_true rfl⟩) hK hP hD hS hA (va_recv hK hP (ci := 14) (q0 := 0) rfl rfl) rfl hl.1 rfl (Nat.le_of_ble_eq_true rfl) dX12_boxes_619 ⟨Nat.le_of_ble_eq_true rfl, Nat.le_of_ble_eq_true rfl⟩ (fun r_19 u_20 H locs q_18 hP hD hS => ?_)
    rcases q_18 with ⟨rfl, rfl, f_21⟩ | ⟨t_22, rfl, rfl, f_23, f_24, f_25⟩ | ⟨rfl, rfl, f_26, f_27⟩ | ⟨t_28, rfl, rfl, f_29, f_30, f_31⟩
    · show _
      exact absurd (by assumption) f_21
    · show _
      obtain rfl := Option.some.inj (g3.symm.trans f_24)
      have hP : va_P (dC, dI) vwCl (rW g ty Y pa kp ks I tl ac 3 tw) H := hP
      have hD : va_D A (rW g ty Y pa kp ks I tl ac 3 tw) := hD
      refine lv_if_eq (tgt := 633) hx hb dX12_boxes_622 (by decide) (fun _ => ?_) (fun c9 => absurd (by decide) c9) 
      refine lv_aload_n hx hb dX12_boxes_633 rfl (lv_at hl 0 rfl) ?_
      refine cV_l (C := RX12) (n := 0) (rest := []) hx hb hml hown hg hT (c_X12_no l dC dI g ty H.size Y pa kp ks I tl ac 3 tw  ) (cv_of hg wM_X12_107 wN_X12_no wL_X12_X12_no wK_X12_no wI_X12 (by decide +kernel) ⟨Nat.le_of_ble_eq_true rfl, Nat.le_of_ble_eq_true rfl⟩) hK hP hD hS hA (va_recv hK hP (ci := 14) (q0 := 0) rfl rfl) rfl hl.1 rfl (Nat.le_of_ble_eq_true rfl) dX12_boxes_634 ⟨Nat.le_of_ble_eq_true rfl, Nat.le_of_ble_eq_true rfl⟩ (fun r_33 u_34 H locs q_32 hP hD hS => ?_)
      obtain ⟨rfl, rfl⟩ := q_32
      have hP : va_P (dC, dI) vwCl (rW g ty Y pa kp ks I tl ac 3 1) H := hP
      have hD : va_D A (rW g ty Y pa kp ks I tl ac 3 1) := hD
      refine cr_l (wo := fun u : rY × (Nat → Int32) × (Nat → Int32) × (Nat → Int32) × Int32 × Int32 => rW g ty u.1 u.2.1 u.2.2.1 ks I u.2.2.2.1 ac u.2.2.2.2.1 u.2.2.2.2.2) ((Y, pa, kp, tl, 3, 1)) hx hb hr hlk hS hP hD ?_ dX12_boxes_637
      exact ⟨0, Y, pa, kp, tl, 3, 1, rfl, rfl, (by exact ra_f (f := 3) rel hcnt htl (by decide))⟩
    · show _
      exact absurd (g3.symm.trans f_27) (by simp)
    · show _
      obtain rfl := Option.some.inj (g3.symm.trans f_30); exact absurd (g4.symm.trans f_31) (by decide)
  · show _
    have hza0 := rk_none rel g2 g3
    have hl : lv_has ls 7 [(0, .ref (g 8)), (1, .int 20), (2, .int a0), (3, .int b0), (4, .int c0)] := hl
    refine lv_iload_n hx hb dX12_boxes_0 rfl (lv_at hl 1 rfl) ?_
    refine lv_tableOut (tgt := 593) hx hb dX12_boxes_1 (by decide) (by decide) ?_
    refine lv_aload_n hx hb dX12_boxes_593 rfl (lv_at hl 0 rfl) ?_
    refine lv_iload_n hx hb dX12_boxes_594 rfl (lv_at hl 2 rfl) ?_
    refine lv_iload_n hx hb dX12_boxes_595 rfl (lv_at hl 1 rfl) ?_
    refine lv_bipush (v := 20) hx hb dX12_boxes_596 (by decide) ?_
    refine lv_icmp_ne (tgt := 606) hx hb dX12_boxes_598 (by decide) (fun c9 => absurd (by decide) c9) (fun _ => ?_)
    refine lv_bipush (v := 14) hx hb dX12_boxes_601 (by decide) ?_
    refine lv_goto (tgt := 619) hx hb dX12_boxes_603 (by decide) ?_
    refine cV_i (C := RX12) (n := 2) (rest := []) hx hb hml hown hg hT (c_X12_thing l dC dI g ty s.heap.size Y pa kp ks I tl ac wr tw ρ pl P a0 14 (by exact rel) (by exact wf) (by exact i32_in (by decide) (by decide))) (cv_of hg wM_X12_131 wN_X12_thing wL_X12_X12_thing wK_X12_thing wI_X12 (by decide +kernel) ⟨Nat.le_of_ble_eq_true rfl, Nat.le_of_ble_eq_true rfl⟩) hK hP hD hS hA (va_recv hK hP (ci := 14) (q0 := 0) rfl rfl) rfl hl.1 rfl (Nat.le_of_ble_eq_true rfl) dX12_boxes_619 ⟨Nat.le_of_ble_eq_true rfl, Nat.le_of_ble_eq_true rfl⟩ (fun r_36 u_37 H locs q_35 hP hD hS => ?_)
    rcases q_35 with ⟨rfl, rfl, f_38⟩ | ⟨t_39, rfl, rfl, f_40, f_41, f_42⟩ | ⟨rfl, rfl, f_43, f_44⟩ | ⟨t_45, rfl, rfl, f_46, f_47, f_48⟩
    · show _
      exact absurd (by assumption) f_38
    · show _
      exact absurd (g3.symm.trans f_41) (by simp)
    · show _
      have hP : va_P (dC, dI) vwCl (rW g ty Y pa kp ks I tl ac wr tw) H := hP
      have hD : va_D A (rW g ty Y pa kp ks I tl ac wr tw) := hD
      refine lv_if_eq (tgt := 633) hx hb dX12_boxes_622 (by decide) (fun c9 => absurd c9 (by decide)) (fun _ => ?_)
      refine lv_aload_n hx hb dX12_boxes_625 rfl (lv_at hl 0 rfl) ?_
      refine lv_iload_n hx hb dX12_boxes_626 rfl (lv_at hl 2 rfl) ?_
      refine cV_i (C := RX12) (n := 1) (rest := []) hx hb hml hown hg hT (c_X12_need l dC dI g ty H.size Y pa kp ks I tl ac wr tw a0 (by assumption)) (cv_of hg wM_X12_134 wN_X12_need wL_X12_X12_need wK_X12_need wI_X12 (by decide +kernel) ⟨Nat.le_of_ble_eq_true rfl, Nat.le_of_ble_eq_true rfl⟩) hK hP hD hS hA (va_recv hK hP (ci := 14) (q0 := 0) rfl rfl) rfl hl.1 rfl (Nat.le_of_ble_eq_true rfl) dX12_boxes_627 ⟨Nat.le_of_ble_eq_true rfl, Nat.le_of_ble_eq_true rfl⟩ (fun r_50 u_51 H locs q_49 hP hD hS => ?_)
      rcases q_49 with ⟨rfl, rfl, f_52⟩ | ⟨rfl, rfl, f_53⟩
      · show _
        have hP : va_P (dC, dI) vwCl (rW g ty Y pa kp ks I tl ac 1 tw) H := hP
        have hD : va_D A (rW g ty Y pa kp ks I tl ac 1 tw) := hD
        refine lv_if_ne (tgt := 638) hx hb dX12_boxes_630 (by decide) (fun c9 => absurd (by decide) c9) (fun _ => ?_)
        refine lv_aload_n hx hb dX12_boxes_633 rfl (lv_at hl 0 rfl) ?_
        refine cV_l (C := RX12) (n := 0) (rest := []) hx hb hml hown hg hT (c_X12_no l dC dI g ty H.size Y pa kp ks I tl ac 1 tw  ) (cv_of hg wM_X12_107 wN_X12_no wL_X12_X12_no wK_X12_no wI_X12 (by decide +kernel) ⟨Nat.le_of_ble_eq_true rfl, Nat.le_of_ble_eq_true rfl⟩) hK hP hD hS hA (va_recv hK hP (ci := 14) (q0 := 0) rfl rfl) rfl hl.1 rfl (Nat.le_of_ble_eq_true rfl) dX12_boxes_634 ⟨Nat.le_of_ble_eq_true rfl, Nat.le_of_ble_eq_true rfl⟩ (fun r_55 u_56 H locs q_54 hP hD hS => ?_)
        obtain ⟨rfl, rfl⟩ := q_54
        have hP : va_P (dC, dI) vwCl (rW g ty Y pa kp ks I tl ac 1 1) H := hP
        have hD : va_D A (rW g ty Y pa kp ks I tl ac 1 1) := hD
        refine cr_l (wo := fun u : rY × (Nat → Int32) × (Nat → Int32) × (Nat → Int32) × Int32 × Int32 => rW g ty u.1 u.2.1 u.2.2.1 ks I u.2.2.2.1 ac u.2.2.2.2.1 u.2.2.2.2.2) ((Y, pa, kp, tl, 1, 1)) hx hb hr hlk hS hP hD ?_ dX12_boxes_637
        exact ⟨0, Y, pa, kp, tl, 1, 1, rfl, rfl, (by exact ra_f (f := 1) rel hcnt htl (by decide))⟩
      · show _
        exact absurd (by assumption) f_53
    · show _
      exact absurd (g3.symm.trans f_47) (by simp)
  · show _
    obtain ⟨n1t, n2t, n3t⟩ := rk_some rel g2 g3
    have hnet := (i32_pos n1t).2.1
    have tht := wf.1 _ _ g3
    have kt := cIs_3 (ki_14 wf tht.1 tht.2 g4)
    have hvt := rv_box rel n1t n2t n3t (by omega)
    have hsr := rv_sr rel n1t n2t n3t
    have hl : lv_has ls 7 [(0, .ref (g 8)), (1, .int 20), (2, .int a0), (3, .int b0), (4, .int c0)] := hl
    refine lv_iload_n hx hb dX12_boxes_0 rfl (lv_at hl 1 rfl) ?_
    refine lv_tableOut (tgt := 593) hx hb dX12_boxes_1 (by decide) (by decide) ?_
    refine lv_aload_n hx hb dX12_boxes_593 rfl (lv_at hl 0 rfl) ?_
    refine lv_iload_n hx hb dX12_boxes_594 rfl (lv_at hl 2 rfl) ?_
    refine lv_iload_n hx hb dX12_boxes_595 rfl (lv_at hl 1 rfl) ?_
    refine lv_bipush (v := 20) hx hb dX12_boxes_596 (by decide) ?_
    refine lv_icmp_ne (tgt := 606) hx hb dX12_boxes_598 (by decide) (fun c9 => absurd (by decide) c9) (fun _ => ?_)
    refine lv_bipush (v := 14) hx hb dX12_boxes_601 (by decide) ?_
    refine lv_goto (tgt := 619) hx hb dX12_boxes_603 (by decide) ?_
    refine cV_i (C := RX12) (n := 2) (rest := []) hx hb hml hown hg hT (c_X12_thing l dC dI g ty s.heap.size Y pa kp ks I tl ac wr tw ρ pl P a0 14 (by exact rel) (by exact wf) (by exact i32_in (by decide) (by decide))) (cv_of hg wM_X12_131 wN_X12_thing wL_X12_X12_thing wK_X12_thing wI_X12 (by decide +kernel) ⟨Nat.le_of_ble_eq_true rfl, Nat.le_of_ble_eq_true rfl⟩) hK hP hD hS hA (va_recv hK hP (ci := 14) (q0 := 0) rfl rfl) rfl hl.1 rfl (Nat.le_of_ble_eq_true rfl) dX12_boxes_619 ⟨Nat.le_of_ble_eq_true rfl, Nat.le_of_ble_eq_true rfl⟩ (fun r_58 u_59 H locs q_57 hP hD hS => ?_)
    rcases q_57 with ⟨rfl, rfl, f_60⟩ | ⟨t_61, rfl, rfl, f_62, f_63, f_64⟩ | ⟨rfl, rfl, f_65, f_66⟩ | ⟨t_67, rfl, rfl, f_68, f_69, f_70⟩
    · show _
      exact absurd (by assumption) f_60
    · show _
      obtain rfl := Option.some.inj (g3.symm.trans f_63); exact absurd (g4.symm.trans f_64) (by decide)
    · show _
      exact absurd (g3.symm.trans f_66) (by simp)
    · show _
      obtain rfl := Option.some.inj (g3.symm.trans f_69)
      have hP : va_P (dC, dI) vwCl (rW g ty Y pa kp ks I tl ac wr tw) H := hP
      have hD : va_D A (rW g ty Y pa kp ks I tl ac wr tw) := hD
      refine lv_if_eq (tgt := 633) hx hb dX12_boxes_622 (by decide) (fun c9 => absurd c9 (by decide)) (fun _ => ?_)
      refine lv_aload_n hx hb dX12_boxes_625 rfl (lv_at hl 0 rfl) ?_
      refine lv_iload_n hx hb dX12_boxes_626 rfl (lv_at hl 2 rfl) ?_
      refine cV_i (C := RX12) (n := 1) (rest := []) hx hb hml hown hg hT (c_X12_need l dC dI g ty H.size Y pa kp ks I tl ac wr tw a0 (by assumption)) (cv_of hg wM_X12_134 wN_X12_need wL_X12_X12_need wK_X12_need wI_X12 (by decide +kernel) ⟨Nat.le_of_ble_eq_true rfl, Nat.le_of_ble_eq_true rfl⟩) hK hP hD hS hA (va_recv hK hP (ci := 14) (q0 := 0) rfl rfl) rfl hl.1 rfl (Nat.le_of_ble_eq_true rfl) dX12_boxes_627 ⟨Nat.le_of_ble_eq_true rfl, Nat.le_of_ble_eq_true rfl⟩ (fun r_72 u_73 H locs q_71 hP hD hS => ?_)
      rcases q_71 with ⟨rfl, rfl, f_74⟩ | ⟨rfl, rfl, f_75⟩
      · show _
        exact absurd f_74 (by assumption)
      · show _
        have hP : va_P (dC, dI) vwCl (rW g ty Y pa kp ks I tl ac wr tw) H := hP
        have hD : va_D A (rW g ty Y pa kp ks I tl ac wr tw) := hD
        refine lv_if_ne (tgt := 638) hx hb dX12_boxes_630 (by decide) (fun _ => ?_) (fun c9 => absurd c9 (by decide)) 
        refine lv_aload_n hx hb dX12_boxes_638 rfl (lv_at hl 0 rfl) ?_
        refine va_get (D := (dC, dI)) (ci := 14) (v := .ref (g 9)) (C := RX12) (T := TX12) (N := 21) hx hb hg inG12 hown hK hP 0 rfl rfl 8 (by decide) (hg _ wF_X12_34) (fun _ h9 => h9) rfl dX12_boxes_639 ?_
        refine lv_iload_n hx hb dX12_boxes_642 rfl (lv_at hl 2 rfl) ?_
        refine va_iald hx hb hK hP 7 0 rfl rfl (by assumption) dX12_boxes_643 ?_
        refine lv_istore (lv' := [(5, .int (pa a0.toNatClampNeg)), (0, .ref (g 8)), (1, .int 20), (2, .int a0), (3, .int b0), (4, .int c0)]) hx hb dX12_boxes_644 hl (by decide) rfl (fun ls hl => ?_)
        refine lv_aload_n hx hb dX12_boxes_646 rfl (lv_at hl 1 rfl) ?_
        refine lv_iload hx hb dX12_boxes_647 (lv_at hl 0 rfl) ?_
        refine lv_iconst (v := 0) hx hb dX12_boxes_649 (by decide) ?_
        refine cV_l (C := RX12) (n := 2) (rest := []) hx hb hml hown hg hT (c_X12_cell l dC dI g ty H.size Y pa kp ks I tl ac wr tw (pa a0.toNatClampNeg) 0 (by exact hvt.1) (by exact hvt.2.1 _ (i32_in (by decide) (by decide)))) (cv_of hg wM_X12_140 wN_X12_cell wL_X12_X12_cell wK_X12_cell wI_X12 (by decide +kernel) ⟨Nat.le_of_ble_eq_true rfl, Nat.le_of_ble_eq_true rfl⟩) hK hP hD hS hA (va_recv hK hP (ci := 14) (q0 := 0) rfl rfl) rfl hl.1 rfl (Nat.le_of_ble_eq_true rfl) dX12_boxes_650 ⟨Nat.le_of_ble_eq_true rfl, Nat.le_of_ble_eq_true rfl⟩ (fun r_77 u_78 H locs q_76 hP hD hS => ?_)
        obtain rfl := q_76
        have hP : va_P (dC, dI) vwCl (rW g ty Y pa kp ks I tl ac wr tw) H := hP
        have hD : va_D A (rW g ty Y pa kp ks I tl ac wr tw) := hD
        refine lv_l2i (v := ((Y.2.2.2.2.2.1 (Y.2.1 (pa a0.toNatClampNeg).toNatClampNeg + 0).toNatClampNeg).toInt32)) hx hb dX12_boxes_653 rfl ?_
        refine lv_topi (fun v9 ev90 => ?_)
        have ev9 : v9 = ((Y.2.2.2.2.2.1 (Y.2.1 (pa a0.toNatClampNeg).toNatClampNeg + 0).toNatClampNeg).toInt32) := ev90
        obtain rfl : v9 = P.2.2.1 t := by rw [ev9, hvt.2.2.1, i64_32]
        refine lv_istore (lv' := [(6, .int (P.2.2.1 t)), (5, .int (pa a0.toNatClampNeg)), (0, .ref (g 8)), (1, .int 20), (2, .int a0), (3, .int b0), (4, .int c0)]) hx hb dX12_boxes_654 hl (by decide) rfl (fun ls hl => ?_)
        refine lv_iload_n hx hb dX12_boxes_656 rfl (lv_at hl 3 rfl) ?_
        refine lv_bipush (v := 15) hx hb dX12_boxes_657 (by decide) ?_
        refine lv_icmp_ne (tgt := 666) hx hb dX12_boxes_659 (by decide) (fun _ => ?_) (fun c9 => absurd c9 (by decide)) 
        refine lv_iload_n hx hb dX12_boxes_666 rfl (lv_at hl 3 rfl) ?_
        refine lv_bipush (v := 16) hx hb dX12_boxes_667 (by decide) ?_
        refine lv_icmp_ne (tgt := 689) hx hb dX12_boxes_669 (by decide) (fun _ => ?_) (fun c9 => absurd c9 (by decide)) 
        refine lv_iload_n hx hb dX12_boxes_689 rfl (lv_at hl 3 rfl) ?_
        refine lv_bipush (v := 19) hx hb dX12_boxes_690 (by decide) ?_
        refine lv_icmp_ne (tgt := 749) hx hb dX12_boxes_692 (by decide) (fun _ => ?_) (fun c9 => absurd c9 (by decide)) 
        refine lv_iload_n hx hb dX12_boxes_749 rfl (lv_at hl 3 rfl) ?_
        refine lv_bipush (v := 20) hx hb dX12_boxes_750 (by decide) ?_
        refine lv_icmp_ne (tgt := 801) hx hb dX12_boxes_752 (by decide) (fun c9 => absurd (by decide) c9) (fun _ => ?_)
        refine lv_aload_n hx hb dX12_boxes_755 rfl (lv_at hl 2 rfl) ?_
        refine va_get (D := (dC, dI)) (ci := 14) (v := .ref (Y.2.2.2.2.2.2.1 0)) (C := RX12) (T := TX12) (N := 21) hx hb hg inG12 hown hK hP 0 rfl rfl 0 (by decide) (hg _ wF_X12_7) (fun _ h9 => h9) rfl dX12_boxes_756 ?_
        refine lv_iload hx hb dX12_boxes_759 (lv_at hl 1 rfl) ?_
        refine va_iald hx hb hK hP 1 0 rfl rfl (by exact hvt.1) dX12_boxes_761 ?_
        refine lv_bipush (v := 13) hx hb dX12_boxes_762 (by decide) ?_
        refine lv_icmp_ne (tgt := 775) hx hb dX12_boxes_764 (by decide) (fun c_79 => ?_) (fun c_79 => ?_)
        · show _
          refine lv_aload_n hx hb dX12_boxes_775 rfl (lv_at hl 2 rfl) ?_
          refine va_get (D := (dC, dI)) (ci := 14) (v := .ref (Y.2.2.2.2.2.2.1 0)) (C := RX12) (T := TX12) (N := 21) hx hb hg inG12 hown hK hP 0 rfl rfl 0 (by decide) (hg _ wF_X12_7) (fun _ h9 => h9) rfl dX12_boxes_776 ?_
          refine lv_iload hx hb dX12_boxes_779 (lv_at hl 1 rfl) ?_
          refine va_iald hx hb hK hP 1 0 rfl rfl (by exact hvt.1) dX12_boxes_781 ?_
          refine lv_bipush (v := 14) hx hb dX12_boxes_782 (by decide) ?_
          refine lv_icmp_ne (tgt := 795) hx hb dX12_boxes_784 (by decide) (fun c_80 => ?_) (fun c_80 => ?_)
          · show _
            refine lv_iload hx hb dX12_boxes_795 (lv_at hl 0 rfl) ?_
            refine lv_iload_n hx hb dX12_boxes_797 rfl (lv_at hl 5 rfl) ?_
            refine lv_iand hx hb dX12_boxes_798 ?_
            refine lv_i2l (v := (((P.2.2.1 t) &&& b0).toInt64)) hx hb dX12_boxes_799 rfl ?_
            refine cr_l (wo := fun u : rY × (Nat → Int32) × (Nat → Int32) × (Nat → Int32) × Int32 × Int32 => rW g ty u.1 u.2.1 u.2.2.1 ks I u.2.2.2.1 ac u.2.2.2.2.1 u.2.2.2.2.2) ((Y, pa, kp, tl, wr, tw)) hx hb hr hlk hS hP hD ?_ dX12_boxes_800
            exact ⟨(((P.2.2.1 t) &&& b0).toInt64), Y, pa, kp, tl, wr, tw, rfl, rfl, (by subst pre6; exact ra_ok rel hcnt htl (congrArg Int32.toInt64 (ro_3 hsr kt c_79 c_80)))⟩
          · show _
            refine lv_iload hx hb dX12_boxes_787 (lv_at hl 0 rfl) ?_
            refine lv_iload_n hx hb dX12_boxes_789 rfl (lv_at hl 5 rfl) ?_
            refine lv_ior hx hb dX12_boxes_790 ?_
            refine lv_i2l (v := (((P.2.2.1 t) ||| b0).toInt64)) hx hb dX12_boxes_791 rfl ?_
            refine lv_goto (tgt := 800) hx hb dX12_boxes_792 (by decide) ?_
            refine cr_l (wo := fun u : rY × (Nat → Int32) × (Nat → Int32) × (Nat → Int32) × Int32 × Int32 => rW g ty u.1 u.2.1 u.2.2.1 ks I u.2.2.2.1 ac u.2.2.2.2.1 u.2.2.2.2.2) ((Y, pa, kp, tl, wr, tw)) hx hb hr hlk hS hP hD ?_ dX12_boxes_800
            exact ⟨(((P.2.2.1 t) ||| b0).toInt64), Y, pa, kp, tl, wr, tw, rfl, rfl, (by subst pre6; exact ra_ok rel hcnt htl (congrArg Int32.toInt64 (ro_0 hsr kt c_80)))⟩
        · show _
          refine lv_iload hx hb dX12_boxes_767 (lv_at hl 0 rfl) ?_
          refine lv_iload_n hx hb dX12_boxes_769 rfl (lv_at hl 5 rfl) ?_
          refine lv_ixor hx hb dX12_boxes_770 ?_
          refine lv_i2l (v := (((P.2.2.1 t) ^^^ b0).toInt64)) hx hb dX12_boxes_771 rfl ?_
          refine lv_goto (tgt := 800) hx hb dX12_boxes_772 (by decide) ?_
          refine cr_l (wo := fun u : rY × (Nat → Int32) × (Nat → Int32) × (Nat → Int32) × Int32 × Int32 => rW g ty u.1 u.2.1 u.2.2.1 ks I u.2.2.2.1 ac u.2.2.2.2.1 u.2.2.2.2.2) ((Y, pa, kp, tl, wr, tw)) hx hb hr hlk hS hP hD ?_ dX12_boxes_800
          exact ⟨(((P.2.2.1 t) ^^^ b0).toInt64), Y, pa, kp, tl, wr, tw, rfl, rfl, (by subst pre6; exact ra_ok rel hcnt htl (congrArg Int32.toInt64 (ro_1 hsr kt c_79)))⟩
set_option maxHeartbeats 800000 in
set_option maxRecDepth 100000 in
theorem c_X12_boxes_21 (l : Launch) (dC : Nat → ClassId) (dI : Nat → Nat → Nat) (g : Nat → Nat) (ty : Nat → ClassId) (sz : Nat) (Y : rY) (pa : Nat → Int32) (kp : Nat → Int32) (ks : Int32) (I : rI) (tl : Nat → Int32) (ac : Int64) (wr : Int32) (tw : Int32) (ρ : Nat → Nat) (pl : Nat → Option Nat) (P : cQ) (md : Int32) (Z : cZ) (rz9 : Int64) (u9 : Int32) (a0 : Int32) (b0 : Int32) (c0 : Int32) (pre0 : rR Y.2.2.2.2.2.2.2.2.2.1 Y pa ρ pl P) (pre1 : cWF pl P) (pre2 : ks = 0) (pre3 : rCnt Y md) (pre4 : tl 5 = md) (pre5 : 0 ≤ md ∧ md ≤ 6000) (pre6 : tw = 0) (pre7 : q_X11_rim a0 pl ac (-1) md Z P rz9 u9) : Met l yX12_boxes (Cond.code yX12_boxes cX12_boxes 7 (some .long) :: gT) ({ frames := 3, cells := 0, slots := 0, locals := 82 }) (cP (dC, dI) (rTy ty) (rW g ty Y pa kp ks I tl ac wr tw) sz [.ref (g 8), .int 21, .int a0, .int b0, .int c0]) (va_Ql (fun (rz : Int64) (u : rY × (Nat → Int32) × (Nat → Int32) × (Nat → Int32) × Int32 × Int32) => ∃ (r' : Int64) (Y' : rY) (pa' kp' tl' : Nat → Int32) (wr' tw' : Int32), r' = rz ∧ (Y', pa', kp', tl', wr', tw') = u ∧ rAns u9 rz9 pl P md tl Y r' Y' pa' tl' wr' tw') (cB (dC, dI) (fun u : rY × (Nat → Int32) × (Nat → Int32) × (Nat → Int32) × Int32 × Int32 => rW g ty u.1 u.2.1 u.2.2.1 ks I u.2.2.2.1 ac u.2.2.2.2.1 u.2.2.2.2.2) (va_A (rW g ty Y pa kp ks I tl ac wr tw) sz)) (va_A (rW g ty Y pa kp ks I tl ac wr tw) sz)) 0 0 (va_A (rW g ty Y pa kp ks I tl ac wr tw) sz) := by
  refine cc_of (Qa := fun A => va_Ql (fun (rz : Int64) (u : rY × (Nat → Int32) × (Nat → Int32) × (Nat → Int32) × Int32 × Int32) => ∃ (r' : Int64) (Y' : rY) (pa' kp' tl' : Nat → Int32) (wr' tw' : Int32), r' = rz ∧ (Y', pa', kp', tl', wr', tw') = u ∧ rAns u9 rz9 pl P md tl Y r' Y' pa' tl' wr' tw') (cB (dC, dI) (fun u : rY × (Nat → Int32) × (Nat → Int32) × (Nat → Int32) × Int32 × Int32 => rW g ty u.1 u.2.1 u.2.2.1 ks I u.2.2.2.1 ac u.2.2.2.2.1 u.2.2.2.2.2) A) A) (by decide) (Nat.le_of_ble_eq_true rfl) ?_
  intro p e s m below meth c A hx hb hr hml hown hg hlk hmn hP hK hD hT hS hA hsz ls hl
  have hown : s.vm.findClass RX12 = some m.cls := hown
  have rel := pre0
  have wf := pre1
  have hcnt := pre3
  have htl := pre4
  rcases pre7 with ⟨rfl, rfl, g2⟩ | ⟨t, rfl, rfl, g2, g3, g4⟩ | ⟨rfl, rfl, g2, g3⟩ | ⟨t, rfl, rfl, g2, g3, g4⟩
  · show _
    have hl : lv_has ls 7 [(0, .ref (g 8)), (1, .int 21), (2, .int a0), (3, .int b0), (4, .int c0)] := hl
    refine lv_iload_n hx hb dX12_boxes_0 rfl (lv_at hl 1 rfl) ?_
    refine lv_tableOut (tgt := 593) hx hb dX12_boxes_1 (by decide) (by decide) ?_
    refine lv_aload_n hx hb dX12_boxes_593 rfl (lv_at hl 0 rfl) ?_
    refine lv_iload_n hx hb dX12_boxes_594 rfl (lv_at hl 2 rfl) ?_
    refine lv_iload_n hx hb dX12_boxes_595 rfl (lv_at hl 1 rfl) ?_
    refine lv_bipush (v := 20) hx hb dX12_boxes_596 (by decide) ?_
    refine lv_icmp_ne (tgt := 606) hx hb dX12_boxes_598 (by decide) (fun _ => ?_) (fun c9 => absurd c9 (by decide)) 
    refine lv_iload_n hx hb dX12_boxes_606 rfl (lv_at hl 1 rfl) ?_
    refine lv_bipush (v := 21) hx hb dX12_boxes_607 (by decide) ?_
    refine lv_icmp_ne (tgt := 617) hx hb dX12_boxes_609 (by decide) (fun c9 => absurd (by decide) c9) (fun _ => ?_)
    refine lv_bipush (v := 13) hx hb dX12_boxes_612 (by decide) ?_
    refine lv_goto (tgt := 619) hx hb dX12_boxes_614 (by decide) ?_
    refine cV_i (C := RX12) (n := 2) (rest := []) hx hb hml hown hg hT (c_X12_thing l dC dI g ty s.heap.size Y pa kp ks I tl ac wr tw ρ pl P a0 13 (by exact rel) (by exact wf) (by exact i32_in (by decide) (by decide))) (cv_of hg wM_X12_131 wN_X12_thing wL_X12_X12_thing wK_X12_thing wI_X12 (by decide +kernel) ⟨Nat.le_of_ble_eq_true rfl, Nat.le_of_ble_eq_true rfl⟩) hK hP hD hS hA (va_recv hK hP (ci := 14) (q0 := 0) rfl rfl) rfl hl.1 rfl (Nat.le_of_ble_eq_true rfl) dX12_boxes_619 ⟨Nat.le_of_ble_eq_true rfl, Nat.le_of_ble_eq_true rfl⟩ (fun r_2 u_3 H locs q_1 hP hD hS => ?_)
    rcases q_1 with ⟨rfl, rfl, f_4⟩ | ⟨t_5, rfl, rfl, f_6, f_7, f_8⟩ | ⟨rfl, rfl, f_9, f_10⟩ | ⟨t_11, rfl, rfl, f_12, f_13, f_14⟩
    · show _
      have hP : va_P (dC, dI) vwCl (rW g ty Y pa kp ks I tl ac 2 tw) H := hP
      have hD : va_D A (rW g ty Y pa kp ks I tl ac 2 tw) := hD
      refine lv_if_eq (tgt := 633) hx hb dX12_boxes_622 (by decide) (fun _ => ?_) (fun c9 => absurd (by decide) c9) 
      refine lv_aload_n hx hb dX12_boxes_633 rfl (lv_at hl 0 rfl) ?_
      refine cV_l (C := RX12) (n := 0) (rest := []) hx hb hml hown hg hT (c_X12_no l dC dI g ty H.size Y pa kp ks I tl ac 2 tw  ) (cv_of hg wM_X12_107 wN_X12_no wL_X12_X12_no wK_X12_no wI_X12 (by decide +kernel) ⟨Nat.le_of_ble_eq_true rfl, Nat.le_of_ble_eq_true rfl⟩) hK hP hD hS hA (va_recv hK hP (ci := 14) (q0 := 0) rfl rfl) rfl hl.1 rfl (Nat.le_of_ble_eq_true rfl) dX12_boxes_634 ⟨Nat.le_of_ble_eq_true rfl, Nat.le_of_ble_eq_true rfl⟩ (fun r_16 u_17 H locs q_15 hP hD hS => ?_)
      obtain ⟨rfl, rfl⟩ := q_15
      have hP : va_P (dC, dI) vwCl (rW g ty Y pa kp ks I tl ac 2 1) H := hP
      have hD : va_D A (rW g ty Y pa kp ks I tl ac 2 1) := hD
      refine cr_l (wo := fun u : rY × (Nat → Int32) × (Nat → Int32) × (Nat → Int32) × Int32 × Int32 => rW g ty u.1 u.2.1 u.2.2.1 ks I u.2.2.2.1 ac u.2.2.2.2.1 u.2.2.2.2.2) ((Y, pa, kp, tl, 2, 1)) hx hb hr hlk hS hP hD ?_ dX12_boxes_637
      exact ⟨0, Y, pa, kp, tl, 2, 1, rfl, rfl, (by exact ra_f (f := 2) rel hcnt htl (by decide))⟩
    · show _
      exact absurd f_6 (by assumption)
    · show _
      exact absurd f_9 (by assumption)
    · show _
      exact absurd f_12 (by assumption)
  · show _
    obtain ⟨n1t, n2t, n3t⟩ := rk_some rel g2 g3
    have hnet := (i32_pos n1t).2.1
    have tht := wf.1 _ _ g3
    have hl : lv_has ls 7 [(0, .ref (g 8)), (1, .int 21), (2, .int a0), (3, .int b0), (4, .int c0)] := hl
    refine lv_iload_n hx hb dX12_boxes_0 rfl (lv_at hl 1 rfl) ?_
    refine lv_tableOut (tgt := 593) hx hb dX12_boxes_1 (by decide) (by decide) ?_
    refine lv_aload_n hx hb dX12_boxes_593 rfl (lv_at hl 0 rfl) ?_
    refine lv_iload_n hx hb dX12_boxes_594 rfl (lv_at hl 2 rfl) ?_
    refine lv_iload_n hx hb dX12_boxes_595 rfl (lv_at hl 1 rfl) ?_
    refine lv_bipush (v := 20) hx hb dX12_boxes_596 (by decide) ?_
    refine lv_icmp_ne (tgt := 606) hx hb dX12_boxes_598 (by decide) (fun _ => ?_) (fun c9 => absurd c9 (by decide)) 
    refine lv_iload_n hx hb dX12_boxes_606 rfl (lv_at hl 1 rfl) ?_
    refine lv_bipush (v := 21) hx hb dX12_boxes_607 (by decide) ?_
    refine lv_icmp_ne (tgt := 617) hx hb dX12_boxes_609 (by decide) (fun c9 => absurd (by decide) c9) (fun _ => ?_)
    refine lv_bipush (v := 13) hx hb dX12_boxes_612 (by decide) ?_
    refine lv_goto (tgt := 619) hx hb dX12_boxes_614 (by decide) ?_
    refine cV_i (C := RX12) (n := 2) (rest := []) hx hb hml hown hg hT (c_X12_thing l dC dI g ty s.heap.size Y pa kp ks I tl ac wr tw ρ pl P a0 13 (by exact rel) (by exact wf) (by exact i32_in (by decide) (by decide))) (cv_of hg wM_X12_131 wN_X12_thing wL_X12_X12_thing wK_X12_thing wI_X12 (by decide +kernel) ⟨Nat.le_of_ble_eq_true rfl, Nat.le_of_ble_eq_true rfl⟩) hK hP hD hS hA (va_recv hK hP (ci := 14) (q0 := 0) rfl rfl) rfl hl.1 rfl (Nat.le_of_ble_eq_true rfl) dX12_boxes_619 ⟨Nat.le_of_ble_eq_true rfl, Nat.le_of_ble_eq_true rfl⟩ (fun r_19 u_20 H locs q_18 hP hD hS => ?_)
    rcases q_18 with ⟨rfl, rfl, f_21⟩ | ⟨t_22, rfl, rfl, f_23, f_24, f_25⟩ | ⟨rfl, rfl, f_26, f_27⟩ | ⟨t_28, rfl, rfl, f_29, f_30, f_31⟩
    · show _
      exact absurd (by assumption) f_21
    · show _
      obtain rfl := Option.some.inj (g3.symm.trans f_24)
      have hP : va_P (dC, dI) vwCl (rW g ty Y pa kp ks I tl ac 3 tw) H := hP
      have hD : va_D A (rW g ty Y pa kp ks I tl ac 3 tw) := hD
      refine lv_if_eq (tgt := 633) hx hb dX12_boxes_622 (by decide) (fun _ => ?_) (fun c9 => absurd (by decide) c9) 
      refine lv_aload_n hx hb dX12_boxes_633 rfl (lv_at hl 0 rfl) ?_
      refine cV_l (C := RX12) (n := 0) (rest := []) hx hb hml hown hg hT (c_X12_no l dC dI g ty H.size Y pa kp ks I tl ac 3 tw  ) (cv_of hg wM_X12_107 wN_X12_no wL_X12_X12_no wK_X12_no wI_X12 (by decide +kernel) ⟨Nat.le_of_ble_eq_true rfl, Nat.le_of_ble_eq_true rfl⟩) hK hP hD hS hA (va_recv hK hP (ci := 14) (q0 := 0) rfl rfl) rfl hl.1 rfl (Nat.le_of_ble_eq_true rfl) dX12_boxes_634 ⟨Nat.le_of_ble_eq_true rfl, Nat.le_of_ble_eq_true rfl⟩ (fun r_33 u_34 H locs q_32 hP hD hS => ?_)
      obtain ⟨rfl, rfl⟩ := q_32
      have hP : va_P (dC, dI) vwCl (rW g ty Y pa kp ks I tl ac 3 1) H := hP
      have hD : va_D A (rW g ty Y pa kp ks I tl ac 3 1) := hD
      refine cr_l (wo := fun u : rY × (Nat → Int32) × (Nat → Int32) × (Nat → Int32) × Int32 × Int32 => rW g ty u.1 u.2.1 u.2.2.1 ks I u.2.2.2.1 ac u.2.2.2.2.1 u.2.2.2.2.2) ((Y, pa, kp, tl, 3, 1)) hx hb hr hlk hS hP hD ?_ dX12_boxes_637
      exact ⟨0, Y, pa, kp, tl, 3, 1, rfl, rfl, (by exact ra_f (f := 3) rel hcnt htl (by decide))⟩
    · show _
      exact absurd (g3.symm.trans f_27) (by simp)
    · show _
      obtain rfl := Option.some.inj (g3.symm.trans f_30); exact absurd (g4.symm.trans f_31) (by decide)
  · show _
    have hza0 := rk_none rel g2 g3
    have hl : lv_has ls 7 [(0, .ref (g 8)), (1, .int 21), (2, .int a0), (3, .int b0), (4, .int c0)] := hl
    refine lv_iload_n hx hb dX12_boxes_0 rfl (lv_at hl 1 rfl) ?_
    refine lv_tableOut (tgt := 593) hx hb dX12_boxes_1 (by decide) (by decide) ?_
    refine lv_aload_n hx hb dX12_boxes_593 rfl (lv_at hl 0 rfl) ?_
    refine lv_iload_n hx hb dX12_boxes_594 rfl (lv_at hl 2 rfl) ?_
    refine lv_iload_n hx hb dX12_boxes_595 rfl (lv_at hl 1 rfl) ?_
    refine lv_bipush (v := 20) hx hb dX12_boxes_596 (by decide) ?_
    refine lv_icmp_ne (tgt := 606) hx hb dX12_boxes_598 (by decide) (fun _ => ?_) (fun c9 => absurd c9 (by decide)) 
    refine lv_iload_n hx hb dX12_boxes_606 rfl (lv_at hl 1 rfl) ?_
    refine lv_bipush (v := 21) hx hb dX12_boxes_607 (by decide) ?_
    refine lv_icmp_ne (tgt := 617) hx hb dX12_boxes_609 (by decide) (fun c9 => absurd (by decide) c9) (fun _ => ?_)
    refine lv_bipush (v := 13) hx hb dX12_boxes_612 (by decide) ?_
    refine lv_goto (tgt := 619) hx hb dX12_boxes_614 (by decide) ?_
    refine cV_i (C := RX12) (n := 2) (rest := []) hx hb hml hown hg hT (c_X12_thing l dC dI g ty s.heap.size Y pa kp ks I tl ac wr tw ρ pl P a0 13 (by exact rel) (by exact wf) (by exact i32_in (by decide) (by decide))) (cv_of hg wM_X12_131 wN_X12_thing wL_X12_X12_thing wK_X12_thing wI_X12 (by decide +kernel) ⟨Nat.le_of_ble_eq_true rfl, Nat.le_of_ble_eq_true rfl⟩) hK hP hD hS hA (va_recv hK hP (ci := 14) (q0 := 0) rfl rfl) rfl hl.1 rfl (Nat.le_of_ble_eq_true rfl) dX12_boxes_619 ⟨Nat.le_of_ble_eq_true rfl, Nat.le_of_ble_eq_true rfl⟩ (fun r_36 u_37 H locs q_35 hP hD hS => ?_)
    rcases q_35 with ⟨rfl, rfl, f_38⟩ | ⟨t_39, rfl, rfl, f_40, f_41, f_42⟩ | ⟨rfl, rfl, f_43, f_44⟩ | ⟨t_45, rfl, rfl, f_46, f_47, f_48⟩
    · show _
      exact absurd (by assumption) f_38
    · show _
      exact absurd (g3.symm.trans f_41) (by simp)
    · show _
      have hP : va_P (dC, dI) vwCl (rW g ty Y pa kp ks I tl ac wr tw) H := hP
      have hD : va_D A (rW g ty Y pa kp ks I tl ac wr tw) := hD
      refine lv_if_eq (tgt := 633) hx hb dX12_boxes_622 (by decide) (fun c9 => absurd c9 (by decide)) (fun _ => ?_)
      refine lv_aload_n hx hb dX12_boxes_625 rfl (lv_at hl 0 rfl) ?_
      refine lv_iload_n hx hb dX12_boxes_626 rfl (lv_at hl 2 rfl) ?_
      refine cV_i (C := RX12) (n := 1) (rest := []) hx hb hml hown hg hT (c_X12_need l dC dI g ty H.size Y pa kp ks I tl ac wr tw a0 (by assumption)) (cv_of hg wM_X12_134 wN_X12_need wL_X12_X12_need wK_X12_need wI_X12 (by decide +kernel) ⟨Nat.le_of_ble_eq_true rfl, Nat.le_of_ble_eq_true rfl⟩) hK hP hD hS hA (va_recv hK hP (ci := 14) (q0 := 0) rfl rfl) rfl hl.1 rfl (Nat.le_of_ble_eq_true rfl) dX12_boxes_627 ⟨Nat.le_of_ble_eq_true rfl, Nat.le_of_ble_eq_true rfl⟩ (fun r_50 u_51 H locs q_49 hP hD hS => ?_)
      rcases q_49 with ⟨rfl, rfl, f_52⟩ | ⟨rfl, rfl, f_53⟩
      · show _
        have hP : va_P (dC, dI) vwCl (rW g ty Y pa kp ks I tl ac 1 tw) H := hP
        have hD : va_D A (rW g ty Y pa kp ks I tl ac 1 tw) := hD
        refine lv_if_ne (tgt := 638) hx hb dX12_boxes_630 (by decide) (fun c9 => absurd (by decide) c9) (fun _ => ?_)
        refine lv_aload_n hx hb dX12_boxes_633 rfl (lv_at hl 0 rfl) ?_
        refine cV_l (C := RX12) (n := 0) (rest := []) hx hb hml hown hg hT (c_X12_no l dC dI g ty H.size Y pa kp ks I tl ac 1 tw  ) (cv_of hg wM_X12_107 wN_X12_no wL_X12_X12_no wK_X12_no wI_X12 (by decide +kernel) ⟨Nat.le_of_ble_eq_true rfl, Nat.le_of_ble_eq_true rfl⟩) hK hP hD hS hA (va_recv hK hP (ci := 14) (q0 := 0) rfl rfl) rfl hl.1 rfl (Nat.le_of_ble_eq_true rfl) dX12_boxes_634 ⟨Nat.le_of_ble_eq_true rfl, Nat.le_of_ble_eq_true rfl⟩ (fun r_55 u_56 H locs q_54 hP hD hS => ?_)
        obtain ⟨rfl, rfl⟩ := q_54
        have hP : va_P (dC, dI) vwCl (rW g ty Y pa kp ks I tl ac 1 1) H := hP
        have hD : va_D A (rW g ty Y pa kp ks I tl ac 1 1) := hD
        refine cr_l (wo := fun u : rY × (Nat → Int32) × (Nat → Int32) × (Nat → Int32) × Int32 × Int32 => rW g ty u.1 u.2.1 u.2.2.1 ks I u.2.2.2.1 ac u.2.2.2.2.1 u.2.2.2.2.2) ((Y, pa, kp, tl, 1, 1)) hx hb hr hlk hS hP hD ?_ dX12_boxes_637
        exact ⟨0, Y, pa, kp, tl, 1, 1, rfl, rfl, (by exact ra_f (f := 1) rel hcnt htl (by decide))⟩
      · show _
        exact absurd (by assumption) f_53
    · show _
      exact absurd (g3.symm.trans f_47) (by simp)
  · show _
    obtain ⟨n1t, n2t, n3t⟩ := rk_some rel g2 g3
    have hnet := (i32_pos n1t).2.1
    have tht := wf.1 _ _ g3
    have kt := cIs_4 (ki_13 wf tht.1 tht.2 g4)
    have hvt := rv_box rel n1t n2t n3t (by omega)
    have hl : lv_has ls 7 [(0, .ref (g 8)), (1, .int 21), (2, .int a0), (3, .int b0), (4, .int c0)] := hl
    refine lv_iload_n hx hb dX12_boxes_0 rfl (lv_at hl 1 rfl) ?_
    refine lv_tableOut (tgt := 593) hx hb dX12_boxes_1 (by decide) (by decide) ?_
    refine lv_aload_n hx hb dX12_boxes_593 rfl (lv_at hl 0 rfl) ?_
    refine lv_iload_n hx hb dX12_boxes_594 rfl (lv_at hl 2 rfl) ?_
    refine lv_iload_n hx hb dX12_boxes_595 rfl (lv_at hl 1 rfl) ?_
    refine lv_bipush (v := 20) hx hb dX12_boxes_596 (by decide) ?_
    refine lv_icmp_ne (tgt := 606) hx hb dX12_boxes_598 (by decide) (fun _ => ?_) (fun c9 => absurd c9 (by decide)) 
    refine lv_iload_n hx hb dX12_boxes_606 rfl (lv_at hl 1 rfl) ?_
    refine lv_bipush (v := 21) hx hb dX12_boxes_607 (by decide) ?_
    refine lv_icmp_ne (tgt := 617) hx hb dX12_boxes_609 (by decide) (fun c9 => absurd (by decide) c9) (fun _ => ?_)
    refine lv_bipush (v := 13) hx hb dX12_boxes_612 (by decide) ?_
    refine lv_goto (tgt := 619) hx hb dX12_boxes_614 (by decide) ?_
    refine cV_i (C := RX12) (n := 2) (rest := []) hx hb hml hown hg hT (c_X12_thing l dC dI g ty s.heap.size Y pa kp ks I tl ac wr tw ρ pl P a0 13 (by exact rel) (by exact wf) (by exact i32_in (by decide) (by decide))) (cv_of hg wM_X12_131 wN_X12_thing wL_X12_X12_thing wK_X12_thing wI_X12 (by decide +kernel) ⟨Nat.le_of_ble_eq_true rfl, Nat.le_of_ble_eq_true rfl⟩) hK hP hD hS hA (va_recv hK hP (ci := 14) (q0 := 0) rfl rfl) rfl hl.1 rfl (Nat.le_of_ble_eq_true rfl) dX12_boxes_619 ⟨Nat.le_of_ble_eq_true rfl, Nat.le_of_ble_eq_true rfl⟩ (fun r_58 u_59 H locs q_57 hP hD hS => ?_)
    rcases q_57 with ⟨rfl, rfl, f_60⟩ | ⟨t_61, rfl, rfl, f_62, f_63, f_64⟩ | ⟨rfl, rfl, f_65, f_66⟩ | ⟨t_67, rfl, rfl, f_68, f_69, f_70⟩
    · show _
      exact absurd (by assumption) f_60
    · show _
      obtain rfl := Option.some.inj (g3.symm.trans f_63); exact absurd (g4.symm.trans f_64) (by decide)
    · show _
      exact absurd (g3.symm.trans f_66) (by simp)
    · show _
      obtain rfl := Option.some.inj (g3.symm.trans f_69)
      have hP : va_P (dC, dI) vwCl (rW g ty Y pa kp ks I tl ac wr tw) H := hP
      have hD : va_D A (rW g ty Y pa kp ks I tl ac wr tw) := hD
      refine lv_if_eq (tgt := 633) hx hb dX12_boxes_622 (by decide) (fun c9 => absurd c9 (by decide)) (fun _ => ?_)
      refine lv_aload_n hx hb dX12_boxes_625 rfl (lv_at hl 0 rfl) ?_
      refine lv_iload_n hx hb dX12_boxes_626 rfl (lv_at hl 2 rfl) ?_
      refine cV_i (C := RX12) (n := 1) (rest := []) hx hb hml hown hg hT (c_X12_need l dC dI g ty H.size Y pa kp ks I tl ac wr tw a0 (by assumption)) (cv_of hg wM_X12_134 wN_X12_need wL_X12_X12_need wK_X12_need wI_X12 (by decide +kernel) ⟨Nat.le_of_ble_eq_true rfl, Nat.le_of_ble_eq_true rfl⟩) hK hP hD hS hA (va_recv hK hP (ci := 14) (q0 := 0) rfl rfl) rfl hl.1 rfl (Nat.le_of_ble_eq_true rfl) dX12_boxes_627 ⟨Nat.le_of_ble_eq_true rfl, Nat.le_of_ble_eq_true rfl⟩ (fun r_72 u_73 H locs q_71 hP hD hS => ?_)
      rcases q_71 with ⟨rfl, rfl, f_74⟩ | ⟨rfl, rfl, f_75⟩
      · show _
        exact absurd f_74 (by assumption)
      · show _
        have hP : va_P (dC, dI) vwCl (rW g ty Y pa kp ks I tl ac wr tw) H := hP
        have hD : va_D A (rW g ty Y pa kp ks I tl ac wr tw) := hD
        refine lv_if_ne (tgt := 638) hx hb dX12_boxes_630 (by decide) (fun _ => ?_) (fun c9 => absurd c9 (by decide)) 
        refine lv_aload_n hx hb dX12_boxes_638 rfl (lv_at hl 0 rfl) ?_
        refine va_get (D := (dC, dI)) (ci := 14) (v := .ref (g 9)) (C := RX12) (T := TX12) (N := 21) hx hb hg inG12 hown hK hP 0 rfl rfl 8 (by decide) (hg _ wF_X12_34) (fun _ h9 => h9) rfl dX12_boxes_639 ?_
        refine lv_iload_n hx hb dX12_boxes_642 rfl (lv_at hl 2 rfl) ?_
        refine va_iald hx hb hK hP 7 0 rfl rfl (by assumption) dX12_boxes_643 ?_
        refine lv_istore (lv' := [(5, .int (pa a0.toNatClampNeg)), (0, .ref (g 8)), (1, .int 21), (2, .int a0), (3, .int b0), (4, .int c0)]) hx hb dX12_boxes_644 hl (by decide) rfl (fun ls hl => ?_)
        refine lv_aload_n hx hb dX12_boxes_646 rfl (lv_at hl 1 rfl) ?_
        refine lv_iload hx hb dX12_boxes_647 (lv_at hl 0 rfl) ?_
        refine lv_iconst (v := 0) hx hb dX12_boxes_649 (by decide) ?_
        refine cV_l (C := RX12) (n := 2) (rest := []) hx hb hml hown hg hT (c_X12_cell l dC dI g ty H.size Y pa kp ks I tl ac wr tw (pa a0.toNatClampNeg) 0 (by exact hvt.1) (by exact hvt.2.1 _ (i32_in (by decide) (by decide)))) (cv_of hg wM_X12_140 wN_X12_cell wL_X12_X12_cell wK_X12_cell wI_X12 (by decide +kernel) ⟨Nat.le_of_ble_eq_true rfl, Nat.le_of_ble_eq_true rfl⟩) hK hP hD hS hA (va_recv hK hP (ci := 14) (q0 := 0) rfl rfl) rfl hl.1 rfl (Nat.le_of_ble_eq_true rfl) dX12_boxes_650 ⟨Nat.le_of_ble_eq_true rfl, Nat.le_of_ble_eq_true rfl⟩ (fun r_77 u_78 H locs q_76 hP hD hS => ?_)
        obtain rfl := q_76
        have hP : va_P (dC, dI) vwCl (rW g ty Y pa kp ks I tl ac wr tw) H := hP
        have hD : va_D A (rW g ty Y pa kp ks I tl ac wr tw) := hD
        refine lv_l2i (v := ((Y.2.2.2.2.2.1 (Y.2.1 (pa a0.toNatClampNeg).toNatClampNeg + 0).toNatClampNeg).toInt32)) hx hb dX12_boxes_653 rfl ?_
        refine lv_topi (fun v9 ev90 => ?_)
        have ev9 : v9 = ((Y.2.2.2.2.2.1 (Y.2.1 (pa a0.toNatClampNeg).toNatClampNeg + 0).toNatClampNeg).toInt32) := ev90
        obtain rfl : v9 = P.2.2.1 t := by rw [ev9, hvt.2.2.1, i64_32]
        refine lv_istore (lv' := [(6, .int (P.2.2.1 t)), (5, .int (pa a0.toNatClampNeg)), (0, .ref (g 8)), (1, .int 21), (2, .int a0), (3, .int b0), (4, .int c0)]) hx hb dX12_boxes_654 hl (by decide) rfl (fun ls hl => ?_)
        refine lv_iload_n hx hb dX12_boxes_656 rfl (lv_at hl 3 rfl) ?_
        refine lv_bipush (v := 15) hx hb dX12_boxes_657 (by decide) ?_
        refine lv_icmp_ne (tgt := 666) hx hb dX12_boxes_659 (by decide) (fun _ => ?_) (fun c9 => absurd c9 (by decide)) 
        refine lv_iload_n hx hb dX12_boxes_666 rfl (lv_at hl 3 rfl) ?_
        refine lv_bipush (v := 16) hx hb dX12_boxes_667 (by decide) ?_
        refine lv_icmp_ne (tgt := 689) hx hb dX12_boxes_669 (by decide) (fun _ => ?_) (fun c9 => absurd c9 (by decide)) 
        refine lv_iload_n hx hb dX12_boxes_689 rfl (lv_at hl 3 rfl) ?_
        refine lv_bipush (v := 19) hx hb dX12_boxes_690 (by decide) ?_
        refine lv_icmp_ne (tgt := 749) hx hb dX12_boxes_692 (by decide) (fun _ => ?_) (fun c9 => absurd c9 (by decide)) 
        refine lv_iload_n hx hb dX12_boxes_749 rfl (lv_at hl 3 rfl) ?_
        refine lv_bipush (v := 20) hx hb dX12_boxes_750 (by decide) ?_
        refine lv_icmp_ne (tgt := 801) hx hb dX12_boxes_752 (by decide) (fun _ => ?_) (fun c9 => absurd c9 (by decide)) 
        refine lv_aload_n hx hb dX12_boxes_801 rfl (lv_at hl 2 rfl) ?_
        refine lv_iload hx hb dX12_boxes_802 (lv_at hl 1 rfl) ?_
        refine lv_iconst (v := 2) hx hb dX12_boxes_804 (by decide) ?_
        refine cV_l (C := RX12) (n := 2) (rest := []) hx hb hml hown hg hT (c_X12_cell l dC dI g ty H.size Y pa kp ks I tl ac wr tw (pa a0.toNatClampNeg) 2 (by exact hvt.1) (by exact hvt.2.1 _ (i32_in (by decide) (by decide)))) (cv_of hg wM_X12_140 wN_X12_cell wL_X12_X12_cell wK_X12_cell wI_X12 (by decide +kernel) ⟨Nat.le_of_ble_eq_true rfl, Nat.le_of_ble_eq_true rfl⟩) hK hP hD hS hA (va_recv hK hP (ci := 14) (q0 := 0) rfl rfl) rfl hl.1 rfl (Nat.le_of_ble_eq_true rfl) dX12_boxes_805 ⟨Nat.le_of_ble_eq_true rfl, Nat.le_of_ble_eq_true rfl⟩ (fun r_80 u_81 H locs q_79 hP hD hS => ?_)
        obtain rfl := q_79
        have hP : va_P (dC, dI) vwCl (rW g ty Y pa kp ks I tl ac wr tw) H := hP
        have hD : va_D A (rW g ty Y pa kp ks I tl ac wr tw) := hD
        refine lv_l2i (v := ((Y.2.2.2.2.2.1 (Y.2.1 (pa a0.toNatClampNeg).toNatClampNeg + 2).toNatClampNeg).toInt32)) hx hb dX12_boxes_808 rfl ?_
        refine lv_i2l (v := (((Y.2.2.2.2.2.1 (Y.2.1 (pa a0.toNatClampNeg).toNatClampNeg + 2).toNatClampNeg).toInt32).toInt64)) hx hb dX12_boxes_809 rfl ?_
        refine cr_l (wo := fun u : rY × (Nat → Int32) × (Nat → Int32) × (Nat → Int32) × Int32 × Int32 => rW g ty u.1 u.2.1 u.2.2.1 ks I u.2.2.2.1 ac u.2.2.2.2.1 u.2.2.2.2.2) ((Y, pa, kp, tl, wr, tw)) hx hb hr hlk hS hP hD ?_ dX12_boxes_810
        exact ⟨(((Y.2.2.2.2.2.1 (Y.2.1 (pa a0.toNatClampNeg).toNatClampNeg + 2).toNatClampNeg).toInt32).toInt64), Y, pa, kp, tl, wr, tw, rfl, rfl, (by subst pre6; exact ra_ok rel hcnt htl (by rw [hvt.2.2.2.2 kt, i64_32]))⟩
set_option maxHeartbeats 800000 in
set_option maxRecDepth 100000 in
theorem c_X12_others_28 (l : Launch) (dC : Nat → ClassId) (dI : Nat → Nat → Nat) (g : Nat → Nat) (ty : Nat → ClassId) (sz : Nat) (Y : rY) (pa : Nat → Int32) (kp : Nat → Int32) (ks : Int32) (I : rI) (tl : Nat → Int32) (ac : Int64) (wr : Int32) (tw : Int32) (ρ : Nat → Nat) (pl : Nat → Option Nat) (P : cQ) (md : Int32) (Z : cZ) (rz9 : Int64) (u9 : (Nat → Option Nat) × Int32) (a0 : Int32) (b0 : Int32) (c0 : Int32) (pre0 : rR Y.2.2.2.2.2.2.2.2.2.1 Y pa ρ pl P) (pre1 : cWF pl P) (pre2 : ks = 0) (pre3 : rCnt Y md) (pre4 : tl 5 = md) (pre5 : 0 ≤ md ∧ md ≤ 6000) (pre6 : tw = 0) (pre7 : q_X11_clear a0 pl ac (-1) md Z P rz9 u9) : Met l yX12_others (Cond.code yX12_others cX12_others 5 (some .long) :: gT) ({ frames := 3, cells := 0, slots := 0, locals := 64 }) (cP (dC, dI) (rTy ty) (rW g ty Y pa kp ks I tl ac wr tw) sz [.ref (g 8), .int 28, .int a0, .int b0, .int c0]) (va_Ql (fun (rz : Int64) (u : rY × (Nat → Int32) × (Nat → Int32) × (Nat → Int32) × Int32 × Int32) => ∃ (r' : Int64) (Y' : rY) (pa' kp' tl' : Nat → Int32) (wr' tw' : Int32), r' = rz ∧ (Y', pa', kp', tl', wr', tw') = u ∧ rAns u9.2 rz9 u9.1 P md tl Y r' Y' pa' tl' wr' tw') (cB (dC, dI) (fun u : rY × (Nat → Int32) × (Nat → Int32) × (Nat → Int32) × Int32 × Int32 => rW g ty u.1 u.2.1 u.2.2.1 ks I u.2.2.2.1 ac u.2.2.2.2.1 u.2.2.2.2.2) (va_A (rW g ty Y pa kp ks I tl ac wr tw) sz)) (va_A (rW g ty Y pa kp ks I tl ac wr tw) sz)) 0 0 (va_A (rW g ty Y pa kp ks I tl ac wr tw) sz) := by
  refine cc_of (Qa := fun A => va_Ql (fun (rz : Int64) (u : rY × (Nat → Int32) × (Nat → Int32) × (Nat → Int32) × Int32 × Int32) => ∃ (r' : Int64) (Y' : rY) (pa' kp' tl' : Nat → Int32) (wr' tw' : Int32), r' = rz ∧ (Y', pa', kp', tl', wr', tw') = u ∧ rAns u9.2 rz9 u9.1 P md tl Y r' Y' pa' tl' wr' tw') (cB (dC, dI) (fun u : rY × (Nat → Int32) × (Nat → Int32) × (Nat → Int32) × Int32 × Int32 => rW g ty u.1 u.2.1 u.2.2.1 ks I u.2.2.2.1 ac u.2.2.2.2.1 u.2.2.2.2.2) A) A) (by decide) (Nat.le_of_ble_eq_true rfl) ?_
  intro p e s m below meth c A hx hb hr hml hown hg hlk hmn hP hK hD hT hS hA hsz ls hl
  have hown : s.vm.findClass RX12 = some m.cls := hown
  have rel := pre0
  have wf := pre1
  have hcnt := pre3
  have htl := pre4
  rcases pre7 with ⟨rfl, rfl, g2⟩ | ⟨rfl, rfl, g2⟩
  · show _
    have hl : lv_has ls 5 [(0, .ref (g 8)), (1, .int 28), (2, .int a0), (3, .int b0), (4, .int c0)] := hl
    refine lv_iload_n hx hb dX12_others_0 rfl (lv_at hl 1 rfl) ?_
    refine lv_tableIn (off := 118) (tgt := 119) hx hb dX12_others_1 (by decide) (by decide) (by decide) (by decide) ?_
    refine lv_aload_n hx hb dX12_others_119 rfl (lv_at hl 0 rfl) ?_
    refine lv_iload_n hx hb dX12_others_120 rfl (lv_at hl 2 rfl) ?_
    refine cV_i (C := RX12) (n := 1) (rest := []) hx hb hml hown hg hT (c_X12_place l dC dI g ty s.heap.size Y pa kp ks I tl ac wr tw a0 ) (cv_of hg wM_X12_83 wN_X12_place wL_X12_X12_place wK_X12_place wI_X12 (by decide +kernel) ⟨Nat.le_of_ble_eq_true rfl, Nat.le_of_ble_eq_true rfl⟩) hK hP hD hS hA (va_recv hK hP (ci := 14) (q0 := 0) rfl rfl) rfl hl.1 rfl (Nat.le_of_ble_eq_true rfl) dX12_others_121 ⟨Nat.le_of_ble_eq_true rfl, Nat.le_of_ble_eq_true rfl⟩ (fun r_2 u_3 H locs q_1 hP hD hS => ?_)
    rcases q_1 with ⟨rfl, rfl, f_4⟩ | ⟨rfl, rfl, f_5⟩
    · show _
      have hP : va_P (dC, dI) vwCl (rW g ty Y pa kp ks I tl ac 2 tw) H := hP
      have hD : va_D A (rW g ty Y pa kp ks I tl ac 2 tw) := hD
      refine lv_if_ne (tgt := 132) hx hb dX12_others_124 (by decide) (fun c9 => absurd (by decide) c9) (fun _ => ?_)
      refine lv_aload_n hx hb dX12_others_127 rfl (lv_at hl 0 rfl) ?_
      refine cV_l (C := RX12) (n := 0) (rest := []) hx hb hml hown hg hT (c_X12_no l dC dI g ty H.size Y pa kp ks I tl ac 2 tw  ) (cv_of hg wM_X12_107 wN_X12_no wL_X12_X12_no wK_X12_no wI_X12 (by decide +kernel) ⟨Nat.le_of_ble_eq_true rfl, Nat.le_of_ble_eq_true rfl⟩) hK hP hD hS hA (va_recv hK hP (ci := 14) (q0 := 0) rfl rfl) rfl hl.1 rfl (Nat.le_of_ble_eq_true rfl) dX12_others_128 ⟨Nat.le_of_ble_eq_true rfl, Nat.le_of_ble_eq_true rfl⟩ (fun r_7 u_8 H locs q_6 hP hD hS => ?_)
      obtain ⟨rfl, rfl⟩ := q_6
      have hP : va_P (dC, dI) vwCl (rW g ty Y pa kp ks I tl ac 2 1) H := hP
      have hD : va_D A (rW g ty Y pa kp ks I tl ac 2 1) := hD
      refine cr_l (wo := fun u : rY × (Nat → Int32) × (Nat → Int32) × (Nat → Int32) × Int32 × Int32 => rW g ty u.1 u.2.1 u.2.2.1 ks I u.2.2.2.1 ac u.2.2.2.2.1 u.2.2.2.2.2) ((Y, pa, kp, tl, 2, 1)) hx hb hr hlk hS hP hD ?_ dX12_others_131
      exact ⟨0, Y, pa, kp, tl, 2, 1, rfl, rfl, (by exact ra_f (f := 2) rel hcnt htl (by decide))⟩
    · show _
      exact absurd f_5 (by assumption)
  · show _
    have hl : lv_has ls 5 [(0, .ref (g 8)), (1, .int 28), (2, .int a0), (3, .int b0), (4, .int c0)] := hl
    refine lv_iload_n hx hb dX12_others_0 rfl (lv_at hl 1 rfl) ?_
    refine lv_tableIn (off := 118) (tgt := 119) hx hb dX12_others_1 (by decide) (by decide) (by decide) (by decide) ?_
    refine lv_aload_n hx hb dX12_others_119 rfl (lv_at hl 0 rfl) ?_
    refine lv_iload_n hx hb dX12_others_120 rfl (lv_at hl 2 rfl) ?_
    refine cV_i (C := RX12) (n := 1) (rest := []) hx hb hml hown hg hT (c_X12_place l dC dI g ty s.heap.size Y pa kp ks I tl ac wr tw a0 ) (cv_of hg wM_X12_83 wN_X12_place wL_X12_X12_place wK_X12_place wI_X12 (by decide +kernel) ⟨Nat.le_of_ble_eq_true rfl, Nat.le_of_ble_eq_true rfl⟩) hK hP hD hS hA (va_recv hK hP (ci := 14) (q0 := 0) rfl rfl) rfl hl.1 rfl (Nat.le_of_ble_eq_true rfl) dX12_others_121 ⟨Nat.le_of_ble_eq_true rfl, Nat.le_of_ble_eq_true rfl⟩ (fun r_10 u_11 H locs q_9 hP hD hS => ?_)
    rcases q_9 with ⟨rfl, rfl, f_12⟩ | ⟨rfl, rfl, f_13⟩
    · show _
      exact absurd (by assumption) f_12
    · show _
      have hP : va_P (dC, dI) vwCl (rW g ty Y pa kp ks I tl ac wr tw) H := hP
      have hD : va_D A (rW g ty Y pa kp ks I tl ac wr tw) := hD
      refine lv_if_ne (tgt := 132) hx hb dX12_others_124 (by decide) (fun _ => ?_) (fun c9 => absurd c9 (by decide)) 
      refine lv_aload_n hx hb dX12_others_132 rfl (lv_at hl 0 rfl) ?_
      refine va_get (D := (dC, dI)) (ci := 14) (v := .ref (g 9)) (C := RX12) (T := TX12) (N := 21) hx hb hg inG12 hown hK hP 0 rfl rfl 8 (by decide) (hg _ wF_X12_34) (fun _ h9 => h9) rfl dX12_others_133 ?_
      refine lv_iload_n hx hb dX12_others_136 rfl (lv_at hl 2 rfl) ?_
      refine lv_iconst (v := 0) hx hb dX12_others_137 (by decide) ?_
      refine va_iast hx hb hK hP hD hS 7 0 rfl rfl (by assumption) dX12_others_138 (fun H locs hP hD hS => ?_)
      have hP : va_P (dC, dI) vwCl (rW g ty Y (upd pa a0.toNatClampNeg 0) kp ks I tl ac wr tw) H := hP
      have hD : va_D A (rW g ty Y (upd pa a0.toNatClampNeg 0) kp ks I tl ac wr tw) := hD
      refine lv_lconst (v := 0) hx hb dX12_others_139 (by decide) ?_
      refine cr_l (wo := fun u : rY × (Nat → Int32) × (Nat → Int32) × (Nat → Int32) × Int32 × Int32 => rW g ty u.1 u.2.1 u.2.2.1 ks I u.2.2.2.1 ac u.2.2.2.2.1 u.2.2.2.2.2) ((Y, (upd pa a0.toNatClampNeg 0), kp, tl, wr, tw)) hx hb hr hlk hS hP hD ?_ dX12_others_140
      exact ⟨0, Y, (upd pa a0.toNatClampNeg 0), kp, tl, wr, tw, rfl, rfl, (by subst pre6; exact ra_w (rw_pl rel (by assumption) (Or.inl ⟨rfl, rfl⟩)) ⟨rfl, rfl, rfl, rfl⟩ hcnt htl rfl)⟩
set_option maxHeartbeats 800000 in
set_option maxRecDepth 100000 in
theorem c_X12_others_29 (l : Launch) (dC : Nat → ClassId) (dI : Nat → Nat → Nat) (g : Nat → Nat) (ty : Nat → ClassId) (sz : Nat) (Y : rY) (pa : Nat → Int32) (kp : Nat → Int32) (ks : Int32) (I : rI) (tl : Nat → Int32) (ac : Int64) (wr : Int32) (tw : Int32) (ρ : Nat → Nat) (pl : Nat → Option Nat) (P : cQ) (md : Int32) (Z : cZ) (rz9 : Int64) (u9 : (Nat → Option Nat) × Int32) (a0 : Int32) (b0 : Int32) (c0 : Int32) (pre0 : rR Y.2.2.2.2.2.2.2.2.2.1 Y pa ρ pl P) (pre1 : cWF pl P) (pre2 : ks = 0) (pre3 : rCnt Y md) (pre4 : tl 5 = md) (pre5 : 0 ≤ md ∧ md ≤ 6000) (pre6 : tw = 0) (pre7 : q_X11_move a0 b0 pl ac (-1) md Z P rz9 u9) : Met l yX12_others (Cond.code yX12_others cX12_others 5 (some .long) :: gT) ({ frames := 3, cells := 0, slots := 0, locals := 64 }) (cP (dC, dI) (rTy ty) (rW g ty Y pa kp ks I tl ac wr tw) sz [.ref (g 8), .int 29, .int a0, .int b0, .int c0]) (va_Ql (fun (rz : Int64) (u : rY × (Nat → Int32) × (Nat → Int32) × (Nat → Int32) × Int32 × Int32) => ∃ (r' : Int64) (Y' : rY) (pa' kp' tl' : Nat → Int32) (wr' tw' : Int32), r' = rz ∧ (Y', pa', kp', tl', wr', tw') = u ∧ rAns u9.2 rz9 u9.1 P md tl Y r' Y' pa' tl' wr' tw') (cB (dC, dI) (fun u : rY × (Nat → Int32) × (Nat → Int32) × (Nat → Int32) × Int32 × Int32 => rW g ty u.1 u.2.1 u.2.2.1 ks I u.2.2.2.1 ac u.2.2.2.2.1 u.2.2.2.2.2) (va_A (rW g ty Y pa kp ks I tl ac wr tw) sz)) (va_A (rW g ty Y pa kp ks I tl ac wr tw) sz)) 0 0 (va_A (rW g ty Y pa kp ks I tl ac wr tw) sz) := by
  refine cc_of (Qa := fun A => va_Ql (fun (rz : Int64) (u : rY × (Nat → Int32) × (Nat → Int32) × (Nat → Int32) × Int32 × Int32) => ∃ (r' : Int64) (Y' : rY) (pa' kp' tl' : Nat → Int32) (wr' tw' : Int32), r' = rz ∧ (Y', pa', kp', tl', wr', tw') = u ∧ rAns u9.2 rz9 u9.1 P md tl Y r' Y' pa' tl' wr' tw') (cB (dC, dI) (fun u : rY × (Nat → Int32) × (Nat → Int32) × (Nat → Int32) × Int32 × Int32 => rW g ty u.1 u.2.1 u.2.2.1 ks I u.2.2.2.1 ac u.2.2.2.2.1 u.2.2.2.2.2) A) A) (by decide) (Nat.le_of_ble_eq_true rfl) ?_
  intro p e s m below meth c A hx hb hr hml hown hg hlk hmn hP hK hD hT hS hA hsz ls hl
  have hown : s.vm.findClass RX12 = some m.cls := hown
  have rel := pre0
  have wf := pre1
  have hcnt := pre3
  have htl := pre4
  rcases pre7 with ⟨rfl, rfl, g2⟩ | ⟨rfl, rfl, g2, g3⟩ | ⟨rfl, rfl, g2, g3⟩
  · show _
    have hl : lv_has ls 5 [(0, .ref (g 8)), (1, .int 29), (2, .int a0), (3, .int b0), (4, .int c0)] := hl
    refine lv_iload_n hx hb dX12_others_0 rfl (lv_at hl 1 rfl) ?_
    refine lv_tableIn (off := 140) (tgt := 141) hx hb dX12_others_1 (by decide) (by decide) (by decide) (by decide) ?_
    refine lv_aload_n hx hb dX12_others_141 rfl (lv_at hl 0 rfl) ?_
    refine lv_iload_n hx hb dX12_others_142 rfl (lv_at hl 3 rfl) ?_
    refine cV_i (C := RX12) (n := 1) (rest := []) hx hb hml hown hg hT (c_X12_place l dC dI g ty s.heap.size Y pa kp ks I tl ac wr tw b0 ) (cv_of hg wM_X12_83 wN_X12_place wL_X12_X12_place wK_X12_place wI_X12 (by decide +kernel) ⟨Nat.le_of_ble_eq_true rfl, Nat.le_of_ble_eq_true rfl⟩) hK hP hD hS hA (va_recv hK hP (ci := 14) (q0 := 0) rfl rfl) rfl hl.1 rfl (Nat.le_of_ble_eq_true rfl) dX12_others_143 ⟨Nat.le_of_ble_eq_true rfl, Nat.le_of_ble_eq_true rfl⟩ (fun r_2 u_3 H locs q_1 hP hD hS => ?_)
    rcases q_1 with ⟨rfl, rfl, f_4⟩ | ⟨rfl, rfl, f_5⟩
    · show _
      have hP : va_P (dC, dI) vwCl (rW g ty Y pa kp ks I tl ac 2 tw) H := hP
      have hD : va_D A (rW g ty Y pa kp ks I tl ac 2 tw) := hD
      refine lv_if_eq (tgt := 157) hx hb dX12_others_146 (by decide) (fun _ => ?_) (fun c9 => absurd (by decide) c9) 
      refine lv_aload_n hx hb dX12_others_157 rfl (lv_at hl 0 rfl) ?_
      refine cV_l (C := RX12) (n := 0) (rest := []) hx hb hml hown hg hT (c_X12_no l dC dI g ty H.size Y pa kp ks I tl ac 2 tw  ) (cv_of hg wM_X12_107 wN_X12_no wL_X12_X12_no wK_X12_no wI_X12 (by decide +kernel) ⟨Nat.le_of_ble_eq_true rfl, Nat.le_of_ble_eq_true rfl⟩) hK hP hD hS hA (va_recv hK hP (ci := 14) (q0 := 0) rfl rfl) rfl hl.1 rfl (Nat.le_of_ble_eq_true rfl) dX12_others_158 ⟨Nat.le_of_ble_eq_true rfl, Nat.le_of_ble_eq_true rfl⟩ (fun r_7 u_8 H locs q_6 hP hD hS => ?_)
      obtain ⟨rfl, rfl⟩ := q_6
      have hP : va_P (dC, dI) vwCl (rW g ty Y pa kp ks I tl ac 2 1) H := hP
      have hD : va_D A (rW g ty Y pa kp ks I tl ac 2 1) := hD
      refine cr_l (wo := fun u : rY × (Nat → Int32) × (Nat → Int32) × (Nat → Int32) × Int32 × Int32 => rW g ty u.1 u.2.1 u.2.2.1 ks I u.2.2.2.1 ac u.2.2.2.2.1 u.2.2.2.2.2) ((Y, pa, kp, tl, 2, 1)) hx hb hr hlk hS hP hD ?_ dX12_others_161
      exact ⟨0, Y, pa, kp, tl, 2, 1, rfl, rfl, (by exact ra_f (f := 2) rel hcnt htl (by decide))⟩
    · show _
      exact absurd f_5 (by assumption)
  · show _
    have hl : lv_has ls 5 [(0, .ref (g 8)), (1, .int 29), (2, .int a0), (3, .int b0), (4, .int c0)] := hl
    refine lv_iload_n hx hb dX12_others_0 rfl (lv_at hl 1 rfl) ?_
    refine lv_tableIn (off := 140) (tgt := 141) hx hb dX12_others_1 (by decide) (by decide) (by decide) (by decide) ?_
    refine lv_aload_n hx hb dX12_others_141 rfl (lv_at hl 0 rfl) ?_
    refine lv_iload_n hx hb dX12_others_142 rfl (lv_at hl 3 rfl) ?_
    refine cV_i (C := RX12) (n := 1) (rest := []) hx hb hml hown hg hT (c_X12_place l dC dI g ty s.heap.size Y pa kp ks I tl ac wr tw b0 ) (cv_of hg wM_X12_83 wN_X12_place wL_X12_X12_place wK_X12_place wI_X12 (by decide +kernel) ⟨Nat.le_of_ble_eq_true rfl, Nat.le_of_ble_eq_true rfl⟩) hK hP hD hS hA (va_recv hK hP (ci := 14) (q0 := 0) rfl rfl) rfl hl.1 rfl (Nat.le_of_ble_eq_true rfl) dX12_others_143 ⟨Nat.le_of_ble_eq_true rfl, Nat.le_of_ble_eq_true rfl⟩ (fun r_10 u_11 H locs q_9 hP hD hS => ?_)
    rcases q_9 with ⟨rfl, rfl, f_12⟩ | ⟨rfl, rfl, f_13⟩
    · show _
      exact absurd (by assumption) f_12
    · show _
      have hP : va_P (dC, dI) vwCl (rW g ty Y pa kp ks I tl ac wr tw) H := hP
      have hD : va_D A (rW g ty Y pa kp ks I tl ac wr tw) := hD
      refine lv_if_eq (tgt := 157) hx hb dX12_others_146 (by decide) (fun c9 => absurd c9 (by decide)) (fun _ => ?_)
      refine lv_aload_n hx hb dX12_others_149 rfl (lv_at hl 0 rfl) ?_
      refine lv_iload_n hx hb dX12_others_150 rfl (lv_at hl 2 rfl) ?_
      refine cV_i (C := RX12) (n := 1) (rest := []) hx hb hml hown hg hT (c_X12_place l dC dI g ty H.size Y pa kp ks I tl ac wr tw a0 ) (cv_of hg wM_X12_83 wN_X12_place wL_X12_X12_place wK_X12_place wI_X12 (by decide +kernel) ⟨Nat.le_of_ble_eq_true rfl, Nat.le_of_ble_eq_true rfl⟩) hK hP hD hS hA (va_recv hK hP (ci := 14) (q0 := 0) rfl rfl) rfl hl.1 rfl (Nat.le_of_ble_eq_true rfl) dX12_others_151 ⟨Nat.le_of_ble_eq_true rfl, Nat.le_of_ble_eq_true rfl⟩ (fun r_15 u_16 H locs q_14 hP hD hS => ?_)
      rcases q_14 with ⟨rfl, rfl, f_17⟩ | ⟨rfl, rfl, f_18⟩
      · show _
        have hP : va_P (dC, dI) vwCl (rW g ty Y pa kp ks I tl ac 2 tw) H := hP
        have hD : va_D A (rW g ty Y pa kp ks I tl ac 2 tw) := hD
        refine lv_if_ne (tgt := 162) hx hb dX12_others_154 (by decide) (fun c9 => absurd (by decide) c9) (fun _ => ?_)
        refine lv_aload_n hx hb dX12_others_157 rfl (lv_at hl 0 rfl) ?_
        refine cV_l (C := RX12) (n := 0) (rest := []) hx hb hml hown hg hT (c_X12_no l dC dI g ty H.size Y pa kp ks I tl ac 2 tw  ) (cv_of hg wM_X12_107 wN_X12_no wL_X12_X12_no wK_X12_no wI_X12 (by decide +kernel) ⟨Nat.le_of_ble_eq_true rfl, Nat.le_of_ble_eq_true rfl⟩) hK hP hD hS hA (va_recv hK hP (ci := 14) (q0 := 0) rfl rfl) rfl hl.1 rfl (Nat.le_of_ble_eq_true rfl) dX12_others_158 ⟨Nat.le_of_ble_eq_true rfl, Nat.le_of_ble_eq_true rfl⟩ (fun r_20 u_21 H locs q_19 hP hD hS => ?_)
        obtain ⟨rfl, rfl⟩ := q_19
        have hP : va_P (dC, dI) vwCl (rW g ty Y pa kp ks I tl ac 2 1) H := hP
        have hD : va_D A (rW g ty Y pa kp ks I tl ac 2 1) := hD
        refine cr_l (wo := fun u : rY × (Nat → Int32) × (Nat → Int32) × (Nat → Int32) × Int32 × Int32 => rW g ty u.1 u.2.1 u.2.2.1 ks I u.2.2.2.1 ac u.2.2.2.2.1 u.2.2.2.2.2) ((Y, pa, kp, tl, 2, 1)) hx hb hr hlk hS hP hD ?_ dX12_others_161
        exact ⟨0, Y, pa, kp, tl, 2, 1, rfl, rfl, (by exact ra_f (f := 2) rel hcnt htl (by decide))⟩
      · show _
        exact absurd f_18 (by assumption)
  · show _
    have hl : lv_has ls 5 [(0, .ref (g 8)), (1, .int 29), (2, .int a0), (3, .int b0), (4, .int c0)] := hl
    refine lv_iload_n hx hb dX12_others_0 rfl (lv_at hl 1 rfl) ?_
    refine lv_tableIn (off := 140) (tgt := 141) hx hb dX12_others_1 (by decide) (by decide) (by decide) (by decide) ?_
    refine lv_aload_n hx hb dX12_others_141 rfl (lv_at hl 0 rfl) ?_
    refine lv_iload_n hx hb dX12_others_142 rfl (lv_at hl 3 rfl) ?_
    refine cV_i (C := RX12) (n := 1) (rest := []) hx hb hml hown hg hT (c_X12_place l dC dI g ty s.heap.size Y pa kp ks I tl ac wr tw b0 ) (cv_of hg wM_X12_83 wN_X12_place wL_X12_X12_place wK_X12_place wI_X12 (by decide +kernel) ⟨Nat.le_of_ble_eq_true rfl, Nat.le_of_ble_eq_true rfl⟩) hK hP hD hS hA (va_recv hK hP (ci := 14) (q0 := 0) rfl rfl) rfl hl.1 rfl (Nat.le_of_ble_eq_true rfl) dX12_others_143 ⟨Nat.le_of_ble_eq_true rfl, Nat.le_of_ble_eq_true rfl⟩ (fun r_23 u_24 H locs q_22 hP hD hS => ?_)
    rcases q_22 with ⟨rfl, rfl, f_25⟩ | ⟨rfl, rfl, f_26⟩
    · show _
      exact absurd (by assumption) f_25
    · show _
      have hP : va_P (dC, dI) vwCl (rW g ty Y pa kp ks I tl ac wr tw) H := hP
      have hD : va_D A (rW g ty Y pa kp ks I tl ac wr tw) := hD
      refine lv_if_eq (tgt := 157) hx hb dX12_others_146 (by decide) (fun c9 => absurd c9 (by decide)) (fun _ => ?_)
      refine lv_aload_n hx hb dX12_others_149 rfl (lv_at hl 0 rfl) ?_
      refine lv_iload_n hx hb dX12_others_150 rfl (lv_at hl 2 rfl) ?_
      refine cV_i (C := RX12) (n := 1) (rest := []) hx hb hml hown hg hT (c_X12_place l dC dI g ty H.size Y pa kp ks I tl ac wr tw a0 ) (cv_of hg wM_X12_83 wN_X12_place wL_X12_X12_place wK_X12_place wI_X12 (by decide +kernel) ⟨Nat.le_of_ble_eq_true rfl, Nat.le_of_ble_eq_true rfl⟩) hK hP hD hS hA (va_recv hK hP (ci := 14) (q0 := 0) rfl rfl) rfl hl.1 rfl (Nat.le_of_ble_eq_true rfl) dX12_others_151 ⟨Nat.le_of_ble_eq_true rfl, Nat.le_of_ble_eq_true rfl⟩ (fun r_28 u_29 H locs q_27 hP hD hS => ?_)
      rcases q_27 with ⟨rfl, rfl, f_30⟩ | ⟨rfl, rfl, f_31⟩
      · show _
        exact absurd (by assumption) f_30
      · show _
        have hP : va_P (dC, dI) vwCl (rW g ty Y pa kp ks I tl ac wr tw) H := hP
        have hD : va_D A (rW g ty Y pa kp ks I tl ac wr tw) := hD
        refine lv_if_ne (tgt := 162) hx hb dX12_others_154 (by decide) (fun _ => ?_) (fun c9 => absurd c9 (by decide)) 
        refine lv_aload_n hx hb dX12_others_162 rfl (lv_at hl 0 rfl) ?_
        refine va_get (D := (dC, dI)) (ci := 14) (v := .ref (g 9)) (C := RX12) (T := TX12) (N := 21) hx hb hg inG12 hown hK hP 0 rfl rfl 8 (by decide) (hg _ wF_X12_34) (fun _ h9 => h9) rfl dX12_others_163 ?_
        refine lv_iload_n hx hb dX12_others_166 rfl (lv_at hl 3 rfl) ?_
        refine lv_aload_n hx hb dX12_others_167 rfl (lv_at hl 0 rfl) ?_
        refine va_get (D := (dC, dI)) (ci := 14) (v := .ref (g 9)) (C := RX12) (T := TX12) (N := 21) hx hb hg inG12 hown hK hP 0 rfl rfl 8 (by decide) (hg _ wF_X12_34) (fun _ h9 => h9) rfl dX12_others_168 ?_
        refine lv_iload_n hx hb dX12_others_171 rfl (lv_at hl 2 rfl) ?_
        refine va_iald hx hb hK hP 7 0 rfl rfl (by assumption) dX12_others_172 ?_
        refine va_iast hx hb hK hP hD hS 7 0 rfl rfl (by assumption) dX12_others_173 (fun H locs hP hD hS => ?_)
        have hP : va_P (dC, dI) vwCl (rW g ty Y (upd pa b0.toNatClampNeg (pa a0.toNatClampNeg)) kp ks I tl ac wr tw) H := hP
        have hD : va_D A (rW g ty Y (upd pa b0.toNatClampNeg (pa a0.toNatClampNeg)) kp ks I tl ac wr tw) := hD
        refine lv_lconst (v := 0) hx hb dX12_others_174 (by decide) ?_
        refine cr_l (wo := fun u : rY × (Nat → Int32) × (Nat → Int32) × (Nat → Int32) × Int32 × Int32 => rW g ty u.1 u.2.1 u.2.2.1 ks I u.2.2.2.1 ac u.2.2.2.2.1 u.2.2.2.2.2) ((Y, (upd pa b0.toNatClampNeg (pa a0.toNatClampNeg)), kp, tl, wr, tw)) hx hb hr hlk hS hP hD ?_ dX12_others_175
        exact ⟨0, Y, (upd pa b0.toNatClampNeg (pa a0.toNatClampNeg)), kp, tl, wr, tw, rfl, rfl, (by subst pre6; exact ra_w (rw_pl rel (by assumption) (pl_lk rel (by assumption))) ⟨rfl, rfl, rfl, rfl⟩ hcnt htl rfl)⟩
set_option maxHeartbeats 800000 in
set_option maxRecDepth 100000 in
theorem c_X12_others_30 (l : Launch) (dC : Nat → ClassId) (dI : Nat → Nat → Nat) (g : Nat → Nat) (ty : Nat → ClassId) (sz : Nat) (Y : rY) (pa : Nat → Int32) (kp : Nat → Int32) (ks : Int32) (I : rI) (tl : Nat → Int32) (ac : Int64) (wr : Int32) (tw : Int32) (ρ : Nat → Nat) (pl : Nat → Option Nat) (P : cQ) (md : Int32) (Z : cZ) (rz9 : Int64) (u9 : Int32) (a0 : Int32) (b0 : Int32) (c0 : Int32) (pre0 : rR Y.2.2.2.2.2.2.2.2.2.1 Y pa ρ pl P) (pre1 : cWF pl P) (pre2 : ks = 0) (pre3 : rCnt Y md) (pre4 : tl 5 = md) (pre5 : 0 ≤ md ∧ md ≤ 6000) (pre6 : tw = 0) (pre7 : q_X11_holdSame a0 b0 pl ac (-1) md Z P rz9 u9) : Met l yX12_others (Cond.code yX12_others cX12_others 5 (some .long) :: gT) ({ frames := 3, cells := 0, slots := 0, locals := 64 }) (cP (dC, dI) (rTy ty) (rW g ty Y pa kp ks I tl ac wr tw) sz [.ref (g 8), .int 30, .int a0, .int b0, .int c0]) (va_Ql (fun (rz : Int64) (u : rY × (Nat → Int32) × (Nat → Int32) × (Nat → Int32) × Int32 × Int32) => ∃ (r' : Int64) (Y' : rY) (pa' kp' tl' : Nat → Int32) (wr' tw' : Int32), r' = rz ∧ (Y', pa', kp', tl', wr', tw') = u ∧ rAns u9 rz9 pl P md tl Y r' Y' pa' tl' wr' tw') (cB (dC, dI) (fun u : rY × (Nat → Int32) × (Nat → Int32) × (Nat → Int32) × Int32 × Int32 => rW g ty u.1 u.2.1 u.2.2.1 ks I u.2.2.2.1 ac u.2.2.2.2.1 u.2.2.2.2.2) (va_A (rW g ty Y pa kp ks I tl ac wr tw) sz)) (va_A (rW g ty Y pa kp ks I tl ac wr tw) sz)) 0 0 (va_A (rW g ty Y pa kp ks I tl ac wr tw) sz) := by
  refine cc_of (Qa := fun A => va_Ql (fun (rz : Int64) (u : rY × (Nat → Int32) × (Nat → Int32) × (Nat → Int32) × Int32 × Int32) => ∃ (r' : Int64) (Y' : rY) (pa' kp' tl' : Nat → Int32) (wr' tw' : Int32), r' = rz ∧ (Y', pa', kp', tl', wr', tw') = u ∧ rAns u9 rz9 pl P md tl Y r' Y' pa' tl' wr' tw') (cB (dC, dI) (fun u : rY × (Nat → Int32) × (Nat → Int32) × (Nat → Int32) × Int32 × Int32 => rW g ty u.1 u.2.1 u.2.2.1 ks I u.2.2.2.1 ac u.2.2.2.2.1 u.2.2.2.2.2) A) A) (by decide) (Nat.le_of_ble_eq_true rfl) ?_
  intro p e s m below meth c A hx hb hr hml hown hg hlk hmn hP hK hD hT hS hA hsz ls hl
  have hown : s.vm.findClass RX12 = some m.cls := hown
  have rel := pre0
  have wf := pre1
  have hcnt := pre3
  have htl := pre4
  rcases pre7 with ⟨rfl, rfl, g2⟩ | ⟨rfl, rfl, g2, g3⟩ | ⟨rfl, rfl, g2, g3, g4⟩ | ⟨rfl, rfl, g2, g3, g4⟩
  · show _
    have hl : lv_has ls 5 [(0, .ref (g 8)), (1, .int 30), (2, .int a0), (3, .int b0), (4, .int c0)] := hl
    refine lv_iload_n hx hb dX12_others_0 rfl (lv_at hl 1 rfl) ?_
    refine lv_tableIn (off := 175) (tgt := 176) hx hb dX12_others_1 (by decide) (by decide) (by decide) (by decide) ?_
    refine lv_aload_n hx hb dX12_others_176 rfl (lv_at hl 0 rfl) ?_
    refine lv_iload_n hx hb dX12_others_177 rfl (lv_at hl 2 rfl) ?_
    refine cV_i (C := RX12) (n := 1) (rest := []) hx hb hml hown hg hT (c_X12_place l dC dI g ty s.heap.size Y pa kp ks I tl ac wr tw a0 ) (cv_of hg wM_X12_83 wN_X12_place wL_X12_X12_place wK_X12_place wI_X12 (by decide +kernel) ⟨Nat.le_of_ble_eq_true rfl, Nat.le_of_ble_eq_true rfl⟩) hK hP hD hS hA (va_recv hK hP (ci := 14) (q0 := 0) rfl rfl) rfl hl.1 rfl (Nat.le_of_ble_eq_true rfl) dX12_others_178 ⟨Nat.le_of_ble_eq_true rfl, Nat.le_of_ble_eq_true rfl⟩ (fun r_2 u_3 H locs q_1 hP hD hS => ?_)
    rcases q_1 with ⟨rfl, rfl, f_4⟩ | ⟨rfl, rfl, f_5⟩
    · show _
      have hP : va_P (dC, dI) vwCl (rW g ty Y pa kp ks I tl ac 2 tw) H := hP
      have hD : va_D A (rW g ty Y pa kp ks I tl ac 2 tw) := hD
      refine lv_if_eq (tgt := 192) hx hb dX12_others_181 (by decide) (fun _ => ?_) (fun c9 => absurd (by decide) c9) 
      refine lv_aload_n hx hb dX12_others_192 rfl (lv_at hl 0 rfl) ?_
      refine cV_l (C := RX12) (n := 0) (rest := []) hx hb hml hown hg hT (c_X12_no l dC dI g ty H.size Y pa kp ks I tl ac 2 tw  ) (cv_of hg wM_X12_107 wN_X12_no wL_X12_X12_no wK_X12_no wI_X12 (by decide +kernel) ⟨Nat.le_of_ble_eq_true rfl, Nat.le_of_ble_eq_true rfl⟩) hK hP hD hS hA (va_recv hK hP (ci := 14) (q0 := 0) rfl rfl) rfl hl.1 rfl (Nat.le_of_ble_eq_true rfl) dX12_others_193 ⟨Nat.le_of_ble_eq_true rfl, Nat.le_of_ble_eq_true rfl⟩ (fun r_7 u_8 H locs q_6 hP hD hS => ?_)
      obtain ⟨rfl, rfl⟩ := q_6
      have hP : va_P (dC, dI) vwCl (rW g ty Y pa kp ks I tl ac 2 1) H := hP
      have hD : va_D A (rW g ty Y pa kp ks I tl ac 2 1) := hD
      refine cr_l (wo := fun u : rY × (Nat → Int32) × (Nat → Int32) × (Nat → Int32) × Int32 × Int32 => rW g ty u.1 u.2.1 u.2.2.1 ks I u.2.2.2.1 ac u.2.2.2.2.1 u.2.2.2.2.2) ((Y, pa, kp, tl, 2, 1)) hx hb hr hlk hS hP hD ?_ dX12_others_196
      exact ⟨0, Y, pa, kp, tl, 2, 1, rfl, rfl, (by exact ra_f (f := 2) rel hcnt htl (by decide))⟩
    · show _
      exact absurd f_5 (by assumption)
  · show _
    have hl : lv_has ls 5 [(0, .ref (g 8)), (1, .int 30), (2, .int a0), (3, .int b0), (4, .int c0)] := hl
    refine lv_iload_n hx hb dX12_others_0 rfl (lv_at hl 1 rfl) ?_
    refine lv_tableIn (off := 175) (tgt := 176) hx hb dX12_others_1 (by decide) (by decide) (by decide) (by decide) ?_
    refine lv_aload_n hx hb dX12_others_176 rfl (lv_at hl 0 rfl) ?_
    refine lv_iload_n hx hb dX12_others_177 rfl (lv_at hl 2 rfl) ?_
    refine cV_i (C := RX12) (n := 1) (rest := []) hx hb hml hown hg hT (c_X12_place l dC dI g ty s.heap.size Y pa kp ks I tl ac wr tw a0 ) (cv_of hg wM_X12_83 wN_X12_place wL_X12_X12_place wK_X12_place wI_X12 (by decide +kernel) ⟨Nat.le_of_ble_eq_true rfl, Nat.le_of_ble_eq_true rfl⟩) hK hP hD hS hA (va_recv hK hP (ci := 14) (q0 := 0) rfl rfl) rfl hl.1 rfl (Nat.le_of_ble_eq_true rfl) dX12_others_178 ⟨Nat.le_of_ble_eq_true rfl, Nat.le_of_ble_eq_true rfl⟩ (fun r_10 u_11 H locs q_9 hP hD hS => ?_)
    rcases q_9 with ⟨rfl, rfl, f_12⟩ | ⟨rfl, rfl, f_13⟩
    · show _
      exact absurd (by assumption) f_12
    · show _
      have hP : va_P (dC, dI) vwCl (rW g ty Y pa kp ks I tl ac wr tw) H := hP
      have hD : va_D A (rW g ty Y pa kp ks I tl ac wr tw) := hD
      refine lv_if_eq (tgt := 192) hx hb dX12_others_181 (by decide) (fun c9 => absurd c9 (by decide)) (fun _ => ?_)
      refine lv_aload_n hx hb dX12_others_184 rfl (lv_at hl 0 rfl) ?_
      refine lv_iload_n hx hb dX12_others_185 rfl (lv_at hl 3 rfl) ?_
      refine cV_i (C := RX12) (n := 1) (rest := []) hx hb hml hown hg hT (c_X12_place l dC dI g ty H.size Y pa kp ks I tl ac wr tw b0 ) (cv_of hg wM_X12_83 wN_X12_place wL_X12_X12_place wK_X12_place wI_X12 (by decide +kernel) ⟨Nat.le_of_ble_eq_true rfl, Nat.le_of_ble_eq_true rfl⟩) hK hP hD hS hA (va_recv hK hP (ci := 14) (q0 := 0) rfl rfl) rfl hl.1 rfl (Nat.le_of_ble_eq_true rfl) dX12_others_186 ⟨Nat.le_of_ble_eq_true rfl, Nat.le_of_ble_eq_true rfl⟩ (fun r_15 u_16 H locs q_14 hP hD hS => ?_)
      rcases q_14 with ⟨rfl, rfl, f_17⟩ | ⟨rfl, rfl, f_18⟩
      · show _
        have hP : va_P (dC, dI) vwCl (rW g ty Y pa kp ks I tl ac 2 tw) H := hP
        have hD : va_D A (rW g ty Y pa kp ks I tl ac 2 tw) := hD
        refine lv_if_ne (tgt := 197) hx hb dX12_others_189 (by decide) (fun c9 => absurd (by decide) c9) (fun _ => ?_)
        refine lv_aload_n hx hb dX12_others_192 rfl (lv_at hl 0 rfl) ?_
        refine cV_l (C := RX12) (n := 0) (rest := []) hx hb hml hown hg hT (c_X12_no l dC dI g ty H.size Y pa kp ks I tl ac 2 tw  ) (cv_of hg wM_X12_107 wN_X12_no wL_X12_X12_no wK_X12_no wI_X12 (by decide +kernel) ⟨Nat.le_of_ble_eq_true rfl, Nat.le_of_ble_eq_true rfl⟩) hK hP hD hS hA (va_recv hK hP (ci := 14) (q0 := 0) rfl rfl) rfl hl.1 rfl (Nat.le_of_ble_eq_true rfl) dX12_others_193 ⟨Nat.le_of_ble_eq_true rfl, Nat.le_of_ble_eq_true rfl⟩ (fun r_20 u_21 H locs q_19 hP hD hS => ?_)
        obtain ⟨rfl, rfl⟩ := q_19
        have hP : va_P (dC, dI) vwCl (rW g ty Y pa kp ks I tl ac 2 1) H := hP
        have hD : va_D A (rW g ty Y pa kp ks I tl ac 2 1) := hD
        refine cr_l (wo := fun u : rY × (Nat → Int32) × (Nat → Int32) × (Nat → Int32) × Int32 × Int32 => rW g ty u.1 u.2.1 u.2.2.1 ks I u.2.2.2.1 ac u.2.2.2.2.1 u.2.2.2.2.2) ((Y, pa, kp, tl, 2, 1)) hx hb hr hlk hS hP hD ?_ dX12_others_196
        exact ⟨0, Y, pa, kp, tl, 2, 1, rfl, rfl, (by exact ra_f (f := 2) rel hcnt htl (by decide))⟩
      · show _
        exact absurd f_18 (by assumption)
  · show _
    have hl : lv_has ls 5 [(0, .ref (g 8)), (1, .int 30), (2, .int a0), (3, .int b0), (4, .int c0)] := hl
    refine lv_iload_n hx hb dX12_others_0 rfl (lv_at hl 1 rfl) ?_
    refine lv_tableIn (off := 175) (tgt := 176) hx hb dX12_others_1 (by decide) (by decide) (by decide) (by decide) ?_
    refine lv_aload_n hx hb dX12_others_176 rfl (lv_at hl 0 rfl) ?_
    refine lv_iload_n hx hb dX12_others_177 rfl (lv_at hl 2 rfl) ?_
    refine cV_i (C := RX12) (n := 1) (rest := []) hx hb hml hown hg hT (c_X12_place l dC dI g ty s.heap.size Y pa kp ks I tl ac wr tw a0 ) (cv_of hg wM_X12_83 wN_X12_place wL_X12_X12_place wK_X12_place wI_X12 (by decide +kernel) ⟨Nat.le_of_ble_eq_true rfl, Nat.le_of_ble_eq_true rfl⟩) hK hP hD hS hA (va_recv hK hP (ci := 14) (q0 := 0) rfl rfl) rfl hl.1 rfl (Nat.le_of_ble_eq_true rfl) dX12_others_178 ⟨Nat.le_of_ble_eq_true rfl, Nat.le_of_ble_eq_true rfl⟩ (fun r_23 u_24 H locs q_22 hP hD hS => ?_)
    rcases q_22 with ⟨rfl, rfl, f_25⟩ | ⟨rfl, rfl, f_26⟩
    · show _
      exact absurd (by assumption) f_25
    · show _
      have hP : va_P (dC, dI) vwCl (rW g ty Y pa kp ks I tl ac wr tw) H := hP
      have hD : va_D A (rW g ty Y pa kp ks I tl ac wr tw) := hD
      refine lv_if_eq (tgt := 192) hx hb dX12_others_181 (by decide) (fun c9 => absurd c9 (by decide)) (fun _ => ?_)
      refine lv_aload_n hx hb dX12_others_184 rfl (lv_at hl 0 rfl) ?_
      refine lv_iload_n hx hb dX12_others_185 rfl (lv_at hl 3 rfl) ?_
      refine cV_i (C := RX12) (n := 1) (rest := []) hx hb hml hown hg hT (c_X12_place l dC dI g ty H.size Y pa kp ks I tl ac wr tw b0 ) (cv_of hg wM_X12_83 wN_X12_place wL_X12_X12_place wK_X12_place wI_X12 (by decide +kernel) ⟨Nat.le_of_ble_eq_true rfl, Nat.le_of_ble_eq_true rfl⟩) hK hP hD hS hA (va_recv hK hP (ci := 14) (q0 := 0) rfl rfl) rfl hl.1 rfl (Nat.le_of_ble_eq_true rfl) dX12_others_186 ⟨Nat.le_of_ble_eq_true rfl, Nat.le_of_ble_eq_true rfl⟩ (fun r_28 u_29 H locs q_27 hP hD hS => ?_)
      rcases q_27 with ⟨rfl, rfl, f_30⟩ | ⟨rfl, rfl, f_31⟩
      · show _
        exact absurd (by assumption) f_30
      · show _
        have hP : va_P (dC, dI) vwCl (rW g ty Y pa kp ks I tl ac wr tw) H := hP
        have hD : va_D A (rW g ty Y pa kp ks I tl ac wr tw) := hD
        refine lv_if_ne (tgt := 197) hx hb dX12_others_189 (by decide) (fun _ => ?_) (fun c9 => absurd c9 (by decide)) 
        refine lv_aload_n hx hb dX12_others_197 rfl (lv_at hl 0 rfl) ?_
        refine va_get (D := (dC, dI)) (ci := 14) (v := .ref (g 9)) (C := RX12) (T := TX12) (N := 21) hx hb hg inG12 hown hK hP 0 rfl rfl 8 (by decide) (hg _ wF_X12_34) (fun _ h9 => h9) rfl dX12_others_198 ?_
        refine lv_iload_n hx hb dX12_others_201 rfl (lv_at hl 2 rfl) ?_
        refine va_iald hx hb hK hP 7 0 rfl rfl (by assumption) dX12_others_202 ?_
        refine lv_aload_n hx hb dX12_others_203 rfl (lv_at hl 0 rfl) ?_
        refine va_get (D := (dC, dI)) (ci := 14) (v := .ref (g 9)) (C := RX12) (T := TX12) (N := 21) hx hb hg inG12 hown hK hP 0 rfl rfl 8 (by decide) (hg _ wF_X12_34) (fun _ h9 => h9) rfl dX12_others_204 ?_
        refine lv_iload_n hx hb dX12_others_207 rfl (lv_at hl 3 rfl) ?_
        refine va_iald hx hb hK hP 7 0 rfl rfl (by assumption) dX12_others_208 ?_
        refine lv_icmp_ne (tgt := 216) hx hb dX12_others_209 (by decide) (fun c_32 => ?_) (fun c_32 => ?_)
        · show _
          refine lv_lconst (v := 0) hx hb dX12_others_216 (by decide) ?_
          refine cr_l (wo := fun u : rY × (Nat → Int32) × (Nat → Int32) × (Nat → Int32) × Int32 × Int32 => rW g ty u.1 u.2.1 u.2.2.1 ks I u.2.2.2.1 ac u.2.2.2.2.1 u.2.2.2.2.2) ((Y, pa, kp, tl, wr, tw)) hx hb hr hlk hS hP hD ?_ dX12_others_217
          exact ⟨0, Y, pa, kp, tl, wr, tw, rfl, rfl, (by subst pre6; exact ra_ok rel hcnt htl (by first | rfl | exact absurd ((pl_same (x := a0) (y := b0) rel (by assumption) (by assumption)).mp (by assumption)) (by assumption) | exact absurd ((pl_same (x := a0) (y := b0) rel (by assumption) (by assumption)).mpr (by assumption)) (by assumption)))⟩
        · show _
          refine lv_lconst (v := 1) hx hb dX12_others_212 (by decide) ?_
          refine lv_goto (tgt := 217) hx hb dX12_others_213 (by decide) ?_
          refine cr_l (wo := fun u : rY × (Nat → Int32) × (Nat → Int32) × (Nat → Int32) × Int32 × Int32 => rW g ty u.1 u.2.1 u.2.2.1 ks I u.2.2.2.1 ac u.2.2.2.2.1 u.2.2.2.2.2) ((Y, pa, kp, tl, wr, tw)) hx hb hr hlk hS hP hD ?_ dX12_others_217
          exact ⟨1, Y, pa, kp, tl, wr, tw, rfl, rfl, (by subst pre6; exact ra_ok rel hcnt htl (by first | rfl | exact absurd ((pl_same (x := a0) (y := b0) rel (by assumption) (by assumption)).mp (by assumption)) (by assumption) | exact absurd ((pl_same (x := a0) (y := b0) rel (by assumption) (by assumption)).mpr (by assumption)) (by assumption)))⟩
  · show _
    have hl : lv_has ls 5 [(0, .ref (g 8)), (1, .int 30), (2, .int a0), (3, .int b0), (4, .int c0)] := hl
    refine lv_iload_n hx hb dX12_others_0 rfl (lv_at hl 1 rfl) ?_
    refine lv_tableIn (off := 175) (tgt := 176) hx hb dX12_others_1 (by decide) (by decide) (by decide) (by decide) ?_
    refine lv_aload_n hx hb dX12_others_176 rfl (lv_at hl 0 rfl) ?_
    refine lv_iload_n hx hb dX12_others_177 rfl (lv_at hl 2 rfl) ?_
    refine cV_i (C := RX12) (n := 1) (rest := []) hx hb hml hown hg hT (c_X12_place l dC dI g ty s.heap.size Y pa kp ks I tl ac wr tw a0 ) (cv_of hg wM_X12_83 wN_X12_place wL_X12_X12_place wK_X12_place wI_X12 (by decide +kernel) ⟨Nat.le_of_ble_eq_true rfl, Nat.le_of_ble_eq_true rfl⟩) hK hP hD hS hA (va_recv hK hP (ci := 14) (q0 := 0) rfl rfl) rfl hl.1 rfl (Nat.le_of_ble_eq_true rfl) dX12_others_178 ⟨Nat.le_of_ble_eq_true rfl, Nat.le_of_ble_eq_true rfl⟩ (fun r_34 u_35 H locs q_33 hP hD hS => ?_)
    rcases q_33 with ⟨rfl, rfl, f_36⟩ | ⟨rfl, rfl, f_37⟩
    · show _
      exact absurd (by assumption) f_36
    · show _
      have hP : va_P (dC, dI) vwCl (rW g ty Y pa kp ks I tl ac wr tw) H := hP
      have hD : va_D A (rW g ty Y pa kp ks I tl ac wr tw) := hD
      refine lv_if_eq (tgt := 192) hx hb dX12_others_181 (by decide) (fun c9 => absurd c9 (by decide)) (fun _ => ?_)
      refine lv_aload_n hx hb dX12_others_184 rfl (lv_at hl 0 rfl) ?_
      refine lv_iload_n hx hb dX12_others_185 rfl (lv_at hl 3 rfl) ?_
      refine cV_i (C := RX12) (n := 1) (rest := []) hx hb hml hown hg hT (c_X12_place l dC dI g ty H.size Y pa kp ks I tl ac wr tw b0 ) (cv_of hg wM_X12_83 wN_X12_place wL_X12_X12_place wK_X12_place wI_X12 (by decide +kernel) ⟨Nat.le_of_ble_eq_true rfl, Nat.le_of_ble_eq_true rfl⟩) hK hP hD hS hA (va_recv hK hP (ci := 14) (q0 := 0) rfl rfl) rfl hl.1 rfl (Nat.le_of_ble_eq_true rfl) dX12_others_186 ⟨Nat.le_of_ble_eq_true rfl, Nat.le_of_ble_eq_true rfl⟩ (fun r_39 u_40 H locs q_38 hP hD hS => ?_)
      rcases q_38 with ⟨rfl, rfl, f_41⟩ | ⟨rfl, rfl, f_42⟩
      · show _
        exact absurd (by assumption) f_41
      · show _
        have hP : va_P (dC, dI) vwCl (rW g ty Y pa kp ks I tl ac wr tw) H := hP
        have hD : va_D A (rW g ty Y pa kp ks I tl ac wr tw) := hD
        refine lv_if_ne (tgt := 197) hx hb dX12_others_189 (by decide) (fun _ => ?_) (fun c9 => absurd c9 (by decide)) 
        refine lv_aload_n hx hb dX12_others_197 rfl (lv_at hl 0 rfl) ?_
        refine va_get (D := (dC, dI)) (ci := 14) (v := .ref (g 9)) (C := RX12) (T := TX12) (N := 21) hx hb hg inG12 hown hK hP 0 rfl rfl 8 (by decide) (hg _ wF_X12_34) (fun _ h9 => h9) rfl dX12_others_198 ?_
        refine lv_iload_n hx hb dX12_others_201 rfl (lv_at hl 2 rfl) ?_
        refine va_iald hx hb hK hP 7 0 rfl rfl (by assumption) dX12_others_202 ?_
        refine lv_aload_n hx hb dX12_others_203 rfl (lv_at hl 0 rfl) ?_
        refine va_get (D := (dC, dI)) (ci := 14) (v := .ref (g 9)) (C := RX12) (T := TX12) (N := 21) hx hb hg inG12 hown hK hP 0 rfl rfl 8 (by decide) (hg _ wF_X12_34) (fun _ h9 => h9) rfl dX12_others_204 ?_
        refine lv_iload_n hx hb dX12_others_207 rfl (lv_at hl 3 rfl) ?_
        refine va_iald hx hb hK hP 7 0 rfl rfl (by assumption) dX12_others_208 ?_
        refine lv_icmp_ne (tgt := 216) hx hb dX12_others_209 (by decide) (fun c_43 => ?_) (fun c_43 => ?_)
        · show _
          refine lv_lconst (v := 0) hx hb dX12_others_216 (by decide) ?_
          refine cr_l (wo := fun u : rY × (Nat → Int32) × (Nat → Int32) × (Nat → Int32) × Int32 × Int32 => rW g ty u.1 u.2.1 u.2.2.1 ks I u.2.2.2.1 ac u.2.2.2.2.1 u.2.2.2.2.2) ((Y, pa, kp, tl, wr, tw)) hx hb hr hlk hS hP hD ?_ dX12_others_217
          exact ⟨0, Y, pa, kp, tl, wr, tw, rfl, rfl, (by subst pre6; exact ra_ok rel hcnt htl (by first | rfl | exact absurd ((pl_same (x := a0) (y := b0) rel (by assumption) (by assumption)).mp (by assumption)) (by assumption) | exact absurd ((pl_same (x := a0) (y := b0) rel (by assumption) (by assumption)).mpr (by assumption)) (by assumption)))⟩
        · show _
          refine lv_lconst (v := 1) hx hb dX12_others_212 (by decide) ?_
          refine lv_goto (tgt := 217) hx hb dX12_others_213 (by decide) ?_
          refine cr_l (wo := fun u : rY × (Nat → Int32) × (Nat → Int32) × (Nat → Int32) × Int32 × Int32 => rW g ty u.1 u.2.1 u.2.2.1 ks I u.2.2.2.1 ac u.2.2.2.2.1 u.2.2.2.2.2) ((Y, pa, kp, tl, wr, tw)) hx hb hr hlk hS hP hD ?_ dX12_others_217
          exact ⟨1, Y, pa, kp, tl, wr, tw, rfl, rfl, (by subst pre6; exact ra_ok rel hcnt htl (by first | rfl | exact absurd ((pl_same (x := a0) (y := b0) rel (by assumption) (by assumption)).mp (by assumption)) (by assumption) | exact absurd ((pl_same (x := a0) (y := b0) rel (by assumption) (by assumption)).mpr (by assumption)) (by assumption)))⟩
set_option maxHeartbeats 800000 in
set_option maxRecDepth 100000 in
theorem c_X12_others_26 (l : Launch) (dC : Nat → ClassId) (dI : Nat → Nat → Nat) (g : Nat → Nat) (ty : Nat → ClassId) (sz : Nat) (Y : rY) (pa : Nat → Int32) (kp : Nat → Int32) (ks : Int32) (I : rI) (tl : Nat → Int32) (ac : Int64) (wr : Int32) (tw : Int32) (ρ : Nat → Nat) (pl : Nat → Option Nat) (P : cQ) (md : Int32) (Z : cZ) (rz9 : Int64) (u9 : Int32) (a0 : Int32) (b0 : Int32) (c0 : Int32) (pre0 : rR Y.2.2.2.2.2.2.2.2.2.1 Y pa ρ pl P) (pre1 : cWF pl P) (pre2 : ks = 0) (pre3 : rCnt Y md) (pre4 : tl 5 = md) (pre5 : 0 ≤ md ∧ md ≤ 6000) (pre6 : tw = 0) (pre7 : q_X11_raise a0 pl ac (-1) md Z P rz9 u9) : Met l yX12_others (Cond.code yX12_others cX12_others 5 (some .long) :: gT) ({ frames := 3, cells := 0, slots := 0, locals := 64 }) (cP (dC, dI) (rTy ty) (rW g ty Y pa kp ks I tl ac wr tw) sz [.ref (g 8), .int 26, .int a0, .int b0, .int c0]) (va_Ql (fun (rz : Int64) (u : rY × (Nat → Int32) × (Nat → Int32) × (Nat → Int32) × Int32 × Int32) => ∃ (r' : Int64) (Y' : rY) (pa' kp' tl' : Nat → Int32) (wr' tw' : Int32), r' = rz ∧ (Y', pa', kp', tl', wr', tw') = u ∧ rAns u9 rz9 pl P md tl Y r' Y' pa' tl' wr' tw') (cB (dC, dI) (fun u : rY × (Nat → Int32) × (Nat → Int32) × (Nat → Int32) × Int32 × Int32 => rW g ty u.1 u.2.1 u.2.2.1 ks I u.2.2.2.1 ac u.2.2.2.2.1 u.2.2.2.2.2) (va_A (rW g ty Y pa kp ks I tl ac wr tw) sz)) (va_A (rW g ty Y pa kp ks I tl ac wr tw) sz)) 0 0 (va_A (rW g ty Y pa kp ks I tl ac wr tw) sz) := by
  refine cc_of (Qa := fun A => va_Ql (fun (rz : Int64) (u : rY × (Nat → Int32) × (Nat → Int32) × (Nat → Int32) × Int32 × Int32) => ∃ (r' : Int64) (Y' : rY) (pa' kp' tl' : Nat → Int32) (wr' tw' : Int32), r' = rz ∧ (Y', pa', kp', tl', wr', tw') = u ∧ rAns u9 rz9 pl P md tl Y r' Y' pa' tl' wr' tw') (cB (dC, dI) (fun u : rY × (Nat → Int32) × (Nat → Int32) × (Nat → Int32) × Int32 × Int32 => rW g ty u.1 u.2.1 u.2.2.1 ks I u.2.2.2.1 ac u.2.2.2.2.1 u.2.2.2.2.2) A) A) (by decide) (Nat.le_of_ble_eq_true rfl) ?_
  intro p e s m below meth c A hx hb hr hml hown hg hlk hmn hP hK hD hT hS hA hsz ls hl
  have hown : s.vm.findClass RX12 = some m.cls := hown
  have rel := pre0
  have wf := pre1
  have hcnt := pre3
  have htl := pre4
  rcases pre7 with ⟨rfl, rfl, g2⟩ | ⟨t, rfl, rfl, g2, g3, g4⟩ | ⟨rfl, rfl, g2, g3⟩ | ⟨t, rfl, rfl, g2, g3, g4⟩
  · show _
    have hl : lv_has ls 5 [(0, .ref (g 8)), (1, .int 26), (2, .int a0), (3, .int b0), (4, .int c0)] := hl
    refine lv_iload_n hx hb dX12_others_0 rfl (lv_at hl 1 rfl) ?_
    refine lv_tableIn (off := 35) (tgt := 36) hx hb dX12_others_1 (by decide) (by decide) (by decide) (by decide) ?_
    refine lv_aload_n hx hb dX12_others_36 rfl (lv_at hl 0 rfl) ?_
    refine lv_iload_n hx hb dX12_others_37 rfl (lv_at hl 2 rfl) ?_
    refine lv_bipush (v := 15) hx hb dX12_others_38 (by decide) ?_
    refine cV_i (C := RX12) (n := 2) (rest := []) hx hb hml hown hg hT (c_X12_thing l dC dI g ty s.heap.size Y pa kp ks I tl ac wr tw ρ pl P a0 15 (by exact rel) (by exact wf) (by exact i32_in (by decide) (by decide))) (cv_of hg wM_X12_131 wN_X12_thing wL_X12_X12_thing wK_X12_thing wI_X12 (by decide +kernel) ⟨Nat.le_of_ble_eq_true rfl, Nat.le_of_ble_eq_true rfl⟩) hK hP hD hS hA (va_recv hK hP (ci := 14) (q0 := 0) rfl rfl) rfl hl.1 rfl (Nat.le_of_ble_eq_true rfl) dX12_others_40 ⟨Nat.le_of_ble_eq_true rfl, Nat.le_of_ble_eq_true rfl⟩ (fun r_2 u_3 H locs q_1 hP hD hS => ?_)
    rcases q_1 with ⟨rfl, rfl, f_4⟩ | ⟨t_5, rfl, rfl, f_6, f_7, f_8⟩ | ⟨rfl, rfl, f_9, f_10⟩ | ⟨t_11, rfl, rfl, f_12, f_13, f_14⟩
    · show _
      have hP : va_P (dC, dI) vwCl (rW g ty Y pa kp ks I tl ac 2 tw) H := hP
      have hD : va_D A (rW g ty Y pa kp ks I tl ac 2 tw) := hD
      refine lv_if_eq (tgt := 54) hx hb dX12_others_43 (by decide) (fun _ => ?_) (fun c9 => absurd (by decide) c9) 
      refine lv_aload_n hx hb dX12_others_54 rfl (lv_at hl 0 rfl) ?_
      refine cV_l (C := RX12) (n := 0) (rest := []) hx hb hml hown hg hT (c_X12_no l dC dI g ty H.size Y pa kp ks I tl ac 2 tw  ) (cv_of hg wM_X12_107 wN_X12_no wL_X12_X12_no wK_X12_no wI_X12 (by decide +kernel) ⟨Nat.le_of_ble_eq_true rfl, Nat.le_of_ble_eq_true rfl⟩) hK hP hD hS hA (va_recv hK hP (ci := 14) (q0 := 0) rfl rfl) rfl hl.1 rfl (Nat.le_of_ble_eq_true rfl) dX12_others_55 ⟨Nat.le_of_ble_eq_true rfl, Nat.le_of_ble_eq_true rfl⟩ (fun r_16 u_17 H locs q_15 hP hD hS => ?_)
      obtain ⟨rfl, rfl⟩ := q_15
      have hP : va_P (dC, dI) vwCl (rW g ty Y pa kp ks I tl ac 2 1) H := hP
      have hD : va_D A (rW g ty Y pa kp ks I tl ac 2 1) := hD
      refine cr_l (wo := fun u : rY × (Nat → Int32) × (Nat → Int32) × (Nat → Int32) × Int32 × Int32 => rW g ty u.1 u.2.1 u.2.2.1 ks I u.2.2.2.1 ac u.2.2.2.2.1 u.2.2.2.2.2) ((Y, pa, kp, tl, 2, 1)) hx hb hr hlk hS hP hD ?_ dX12_others_58
      exact ⟨0, Y, pa, kp, tl, 2, 1, rfl, rfl, (by exact ra_f (f := 2) rel hcnt htl (by decide))⟩
    · show _
      exact absurd f_6 (by assumption)
    · show _
      exact absurd f_9 (by assumption)
    · show _
      exact absurd f_12 (by assumption)
  · show _
    obtain ⟨n1t, n2t, n3t⟩ := rk_some rel g2 g3
    have hnet := (i32_pos n1t).2.1
    have tht := wf.1 _ _ g3
    have hl : lv_has ls 5 [(0, .ref (g 8)), (1, .int 26), (2, .int a0), (3, .int b0), (4, .int c0)] := hl
    refine lv_iload_n hx hb dX12_others_0 rfl (lv_at hl 1 rfl) ?_
    refine lv_tableIn (off := 35) (tgt := 36) hx hb dX12_others_1 (by decide) (by decide) (by decide) (by decide) ?_
    refine lv_aload_n hx hb dX12_others_36 rfl (lv_at hl 0 rfl) ?_
    refine lv_iload_n hx hb dX12_others_37 rfl (lv_at hl 2 rfl) ?_
    refine lv_bipush (v := 15) hx hb dX12_others_38 (by decide) ?_
    refine cV_i (C := RX12) (n := 2) (rest := []) hx hb hml hown hg hT (c_X12_thing l dC dI g ty s.heap.size Y pa kp ks I tl ac wr tw ρ pl P a0 15 (by exact rel) (by exact wf) (by exact i32_in (by decide) (by decide))) (cv_of hg wM_X12_131 wN_X12_thing wL_X12_X12_thing wK_X12_thing wI_X12 (by decide +kernel) ⟨Nat.le_of_ble_eq_true rfl, Nat.le_of_ble_eq_true rfl⟩) hK hP hD hS hA (va_recv hK hP (ci := 14) (q0 := 0) rfl rfl) rfl hl.1 rfl (Nat.le_of_ble_eq_true rfl) dX12_others_40 ⟨Nat.le_of_ble_eq_true rfl, Nat.le_of_ble_eq_true rfl⟩ (fun r_19 u_20 H locs q_18 hP hD hS => ?_)
    rcases q_18 with ⟨rfl, rfl, f_21⟩ | ⟨t_22, rfl, rfl, f_23, f_24, f_25⟩ | ⟨rfl, rfl, f_26, f_27⟩ | ⟨t_28, rfl, rfl, f_29, f_30, f_31⟩
    · show _
      exact absurd (by assumption) f_21
    · show _
      obtain rfl := Option.some.inj (g3.symm.trans f_24)
      have hP : va_P (dC, dI) vwCl (rW g ty Y pa kp ks I tl ac 3 tw) H := hP
      have hD : va_D A (rW g ty Y pa kp ks I tl ac 3 tw) := hD
      refine lv_if_eq (tgt := 54) hx hb dX12_others_43 (by decide) (fun _ => ?_) (fun c9 => absurd (by decide) c9) 
      refine lv_aload_n hx hb dX12_others_54 rfl (lv_at hl 0 rfl) ?_
      refine cV_l (C := RX12) (n := 0) (rest := []) hx hb hml hown hg hT (c_X12_no l dC dI g ty H.size Y pa kp ks I tl ac 3 tw  ) (cv_of hg wM_X12_107 wN_X12_no wL_X12_X12_no wK_X12_no wI_X12 (by decide +kernel) ⟨Nat.le_of_ble_eq_true rfl, Nat.le_of_ble_eq_true rfl⟩) hK hP hD hS hA (va_recv hK hP (ci := 14) (q0 := 0) rfl rfl) rfl hl.1 rfl (Nat.le_of_ble_eq_true rfl) dX12_others_55 ⟨Nat.le_of_ble_eq_true rfl, Nat.le_of_ble_eq_true rfl⟩ (fun r_33 u_34 H locs q_32 hP hD hS => ?_)
      obtain ⟨rfl, rfl⟩ := q_32
      have hP : va_P (dC, dI) vwCl (rW g ty Y pa kp ks I tl ac 3 1) H := hP
      have hD : va_D A (rW g ty Y pa kp ks I tl ac 3 1) := hD
      refine cr_l (wo := fun u : rY × (Nat → Int32) × (Nat → Int32) × (Nat → Int32) × Int32 × Int32 => rW g ty u.1 u.2.1 u.2.2.1 ks I u.2.2.2.1 ac u.2.2.2.2.1 u.2.2.2.2.2) ((Y, pa, kp, tl, 3, 1)) hx hb hr hlk hS hP hD ?_ dX12_others_58
      exact ⟨0, Y, pa, kp, tl, 3, 1, rfl, rfl, (by exact ra_f (f := 3) rel hcnt htl (by decide))⟩
    · show _
      exact absurd (g3.symm.trans f_27) (by simp)
    · show _
      obtain rfl := Option.some.inj (g3.symm.trans f_30); exact absurd (g4.symm.trans f_31) (by decide)
  · show _
    have hza0 := rk_none rel g2 g3
    have hl : lv_has ls 5 [(0, .ref (g 8)), (1, .int 26), (2, .int a0), (3, .int b0), (4, .int c0)] := hl
    refine lv_iload_n hx hb dX12_others_0 rfl (lv_at hl 1 rfl) ?_
    refine lv_tableIn (off := 35) (tgt := 36) hx hb dX12_others_1 (by decide) (by decide) (by decide) (by decide) ?_
    refine lv_aload_n hx hb dX12_others_36 rfl (lv_at hl 0 rfl) ?_
    refine lv_iload_n hx hb dX12_others_37 rfl (lv_at hl 2 rfl) ?_
    refine lv_bipush (v := 15) hx hb dX12_others_38 (by decide) ?_
    refine cV_i (C := RX12) (n := 2) (rest := []) hx hb hml hown hg hT (c_X12_thing l dC dI g ty s.heap.size Y pa kp ks I tl ac wr tw ρ pl P a0 15 (by exact rel) (by exact wf) (by exact i32_in (by decide) (by decide))) (cv_of hg wM_X12_131 wN_X12_thing wL_X12_X12_thing wK_X12_thing wI_X12 (by decide +kernel) ⟨Nat.le_of_ble_eq_true rfl, Nat.le_of_ble_eq_true rfl⟩) hK hP hD hS hA (va_recv hK hP (ci := 14) (q0 := 0) rfl rfl) rfl hl.1 rfl (Nat.le_of_ble_eq_true rfl) dX12_others_40 ⟨Nat.le_of_ble_eq_true rfl, Nat.le_of_ble_eq_true rfl⟩ (fun r_36 u_37 H locs q_35 hP hD hS => ?_)
    rcases q_35 with ⟨rfl, rfl, f_38⟩ | ⟨t_39, rfl, rfl, f_40, f_41, f_42⟩ | ⟨rfl, rfl, f_43, f_44⟩ | ⟨t_45, rfl, rfl, f_46, f_47, f_48⟩
    · show _
      exact absurd (by assumption) f_38
    · show _
      exact absurd (g3.symm.trans f_41) (by simp)
    · show _
      have hP : va_P (dC, dI) vwCl (rW g ty Y pa kp ks I tl ac wr tw) H := hP
      have hD : va_D A (rW g ty Y pa kp ks I tl ac wr tw) := hD
      refine lv_if_eq (tgt := 54) hx hb dX12_others_43 (by decide) (fun c9 => absurd c9 (by decide)) (fun _ => ?_)
      refine lv_aload_n hx hb dX12_others_46 rfl (lv_at hl 0 rfl) ?_
      refine lv_iload_n hx hb dX12_others_47 rfl (lv_at hl 2 rfl) ?_
      refine cV_i (C := RX12) (n := 1) (rest := []) hx hb hml hown hg hT (c_X12_need l dC dI g ty H.size Y pa kp ks I tl ac wr tw a0 (by assumption)) (cv_of hg wM_X12_134 wN_X12_need wL_X12_X12_need wK_X12_need wI_X12 (by decide +kernel) ⟨Nat.le_of_ble_eq_true rfl, Nat.le_of_ble_eq_true rfl⟩) hK hP hD hS hA (va_recv hK hP (ci := 14) (q0 := 0) rfl rfl) rfl hl.1 rfl (Nat.le_of_ble_eq_true rfl) dX12_others_48 ⟨Nat.le_of_ble_eq_true rfl, Nat.le_of_ble_eq_true rfl⟩ (fun r_50 u_51 H locs q_49 hP hD hS => ?_)
      rcases q_49 with ⟨rfl, rfl, f_52⟩ | ⟨rfl, rfl, f_53⟩
      · show _
        have hP : va_P (dC, dI) vwCl (rW g ty Y pa kp ks I tl ac 1 tw) H := hP
        have hD : va_D A (rW g ty Y pa kp ks I tl ac 1 tw) := hD
        refine lv_if_ne (tgt := 59) hx hb dX12_others_51 (by decide) (fun c9 => absurd (by decide) c9) (fun _ => ?_)
        refine lv_aload_n hx hb dX12_others_54 rfl (lv_at hl 0 rfl) ?_
        refine cV_l (C := RX12) (n := 0) (rest := []) hx hb hml hown hg hT (c_X12_no l dC dI g ty H.size Y pa kp ks I tl ac 1 tw  ) (cv_of hg wM_X12_107 wN_X12_no wL_X12_X12_no wK_X12_no wI_X12 (by decide +kernel) ⟨Nat.le_of_ble_eq_true rfl, Nat.le_of_ble_eq_true rfl⟩) hK hP hD hS hA (va_recv hK hP (ci := 14) (q0 := 0) rfl rfl) rfl hl.1 rfl (Nat.le_of_ble_eq_true rfl) dX12_others_55 ⟨Nat.le_of_ble_eq_true rfl, Nat.le_of_ble_eq_true rfl⟩ (fun r_55 u_56 H locs q_54 hP hD hS => ?_)
        obtain ⟨rfl, rfl⟩ := q_54
        have hP : va_P (dC, dI) vwCl (rW g ty Y pa kp ks I tl ac 1 1) H := hP
        have hD : va_D A (rW g ty Y pa kp ks I tl ac 1 1) := hD
        refine cr_l (wo := fun u : rY × (Nat → Int32) × (Nat → Int32) × (Nat → Int32) × Int32 × Int32 => rW g ty u.1 u.2.1 u.2.2.1 ks I u.2.2.2.1 ac u.2.2.2.2.1 u.2.2.2.2.2) ((Y, pa, kp, tl, 1, 1)) hx hb hr hlk hS hP hD ?_ dX12_others_58
        exact ⟨0, Y, pa, kp, tl, 1, 1, rfl, rfl, (by exact ra_f (f := 1) rel hcnt htl (by decide))⟩
      · show _
        exact absurd (by assumption) f_53
    · show _
      exact absurd (g3.symm.trans f_47) (by simp)
  · show _
    obtain ⟨n1t, n2t, n3t⟩ := rk_some rel g2 g3
    have hnet := (i32_pos n1t).2.1
    have tht := wf.1 _ _ g3
    have kt := cIs_5 (ki_15 wf tht.1 tht.2 g4)
    have hsr := rv_sr rel n1t n2t n3t
    have hl : lv_has ls 5 [(0, .ref (g 8)), (1, .int 26), (2, .int a0), (3, .int b0), (4, .int c0)] := hl
    refine lv_iload_n hx hb dX12_others_0 rfl (lv_at hl 1 rfl) ?_
    refine lv_tableIn (off := 35) (tgt := 36) hx hb dX12_others_1 (by decide) (by decide) (by decide) (by decide) ?_
    refine lv_aload_n hx hb dX12_others_36 rfl (lv_at hl 0 rfl) ?_
    refine lv_iload_n hx hb dX12_others_37 rfl (lv_at hl 2 rfl) ?_
    refine lv_bipush (v := 15) hx hb dX12_others_38 (by decide) ?_
    refine cV_i (C := RX12) (n := 2) (rest := []) hx hb hml hown hg hT (c_X12_thing l dC dI g ty s.heap.size Y pa kp ks I tl ac wr tw ρ pl P a0 15 (by exact rel) (by exact wf) (by exact i32_in (by decide) (by decide))) (cv_of hg wM_X12_131 wN_X12_thing wL_X12_X12_thing wK_X12_thing wI_X12 (by decide +kernel) ⟨Nat.le_of_ble_eq_true rfl, Nat.le_of_ble_eq_true rfl⟩) hK hP hD hS hA (va_recv hK hP (ci := 14) (q0 := 0) rfl rfl) rfl hl.1 rfl (Nat.le_of_ble_eq_true rfl) dX12_others_40 ⟨Nat.le_of_ble_eq_true rfl, Nat.le_of_ble_eq_true rfl⟩ (fun r_58 u_59 H locs q_57 hP hD hS => ?_)
    rcases q_57 with ⟨rfl, rfl, f_60⟩ | ⟨t_61, rfl, rfl, f_62, f_63, f_64⟩ | ⟨rfl, rfl, f_65, f_66⟩ | ⟨t_67, rfl, rfl, f_68, f_69, f_70⟩
    · show _
      exact absurd (by assumption) f_60
    · show _
      obtain rfl := Option.some.inj (g3.symm.trans f_63); exact absurd (g4.symm.trans f_64) (by decide)
    · show _
      exact absurd (g3.symm.trans f_66) (by simp)
    · show _
      obtain rfl := Option.some.inj (g3.symm.trans f_69)
      have hP : va_P (dC, dI) vwCl (rW g ty Y pa kp ks I tl ac wr tw) H := hP
      have hD : va_D A (rW g ty Y pa kp ks I tl ac wr tw) := hD
      refine lv_if_eq (tgt := 54) hx hb dX12_others_43 (by decide) (fun c9 => absurd c9 (by decide)) (fun _ => ?_)
      refine lv_aload_n hx hb dX12_others_46 rfl (lv_at hl 0 rfl) ?_
      refine lv_iload_n hx hb dX12_others_47 rfl (lv_at hl 2 rfl) ?_
      refine cV_i (C := RX12) (n := 1) (rest := []) hx hb hml hown hg hT (c_X12_need l dC dI g ty H.size Y pa kp ks I tl ac wr tw a0 (by assumption)) (cv_of hg wM_X12_134 wN_X12_need wL_X12_X12_need wK_X12_need wI_X12 (by decide +kernel) ⟨Nat.le_of_ble_eq_true rfl, Nat.le_of_ble_eq_true rfl⟩) hK hP hD hS hA (va_recv hK hP (ci := 14) (q0 := 0) rfl rfl) rfl hl.1 rfl (Nat.le_of_ble_eq_true rfl) dX12_others_48 ⟨Nat.le_of_ble_eq_true rfl, Nat.le_of_ble_eq_true rfl⟩ (fun r_72 u_73 H locs q_71 hP hD hS => ?_)
      rcases q_71 with ⟨rfl, rfl, f_74⟩ | ⟨rfl, rfl, f_75⟩
      · show _
        exact absurd f_74 (by assumption)
      · show _
        have hP : va_P (dC, dI) vwCl (rW g ty Y pa kp ks I tl ac wr tw) H := hP
        have hD : va_D A (rW g ty Y pa kp ks I tl ac wr tw) := hD
        refine lv_if_ne (tgt := 59) hx hb dX12_others_51 (by decide) (fun _ => ?_) (fun c9 => absurd c9 (by decide)) 
        refine lv_aload_n hx hb dX12_others_59 rfl (lv_at hl 0 rfl) ?_
        refine lv_aload_n hx hb dX12_others_60 rfl (lv_at hl 0 rfl) ?_
        refine va_get (D := (dC, dI)) (ci := 14) (v := .ref (Y.2.2.2.2.2.2.1 0)) (C := RX12) (T := TX12) (N := 21) hx hb hg inG12 hown hK hP 0 rfl rfl 0 (by decide) (hg _ wF_X12_7) (fun _ h9 => h9) rfl dX12_others_61 ?_
        refine lv_aload_n hx hb dX12_others_64 rfl (lv_at hl 0 rfl) ?_
        refine va_get (D := (dC, dI)) (ci := 14) (v := .ref (g 9)) (C := RX12) (T := TX12) (N := 21) hx hb hg inG12 hown hK hP 0 rfl rfl 8 (by decide) (hg _ wF_X12_34) (fun _ h9 => h9) rfl dX12_others_65 ?_
        refine lv_iload_n hx hb dX12_others_68 rfl (lv_at hl 2 rfl) ?_
        refine va_iald hx hb hK hP 7 0 rfl rfl (by assumption) dX12_others_69 ?_
        refine va_iald hx hb hK hP 1 0 rfl rfl (by exact (rk_in rel n1t n2t).1) dX12_others_70 ?_
        refine lv_bipush (v := 16) hx hb dX12_others_71 (by decide) ?_
        refine lv_isub hx hb dX12_others_73 ?_
        refine cV_i (C := RX12) (n := 1) (rest := []) hx hb hml hown hg hT (c_X12_fails l dC dI g ty H.size Y pa kp ks I tl ac wr tw ((Y.1 (pa a0.toNatClampNeg).toNatClampNeg) - 16) ) (cv_of hg wM_X12_79 wN_X12_fails wL_X12_X12_fails wK_X12_fails wI_X12 (by decide +kernel) ⟨Nat.le_of_ble_eq_true rfl, Nat.le_of_ble_eq_true rfl⟩) hK hP hD hS hA (va_recv hK hP (ci := 14) (q0 := 0) rfl rfl) rfl hl.1 rfl (Nat.le_of_ble_eq_true rfl) dX12_others_74 ⟨Nat.le_of_ble_eq_true rfl, Nat.le_of_ble_eq_true rfl⟩ (fun r_77 u_78 H locs q_76 hP hD hS => ?_)
        obtain ⟨rfl, rfl⟩ := q_76
        have hP : va_P (dC, dI) vwCl (rW g ty Y pa kp ks I tl ac ((Y.1 (pa a0.toNatClampNeg).toNatClampNeg) - 16) tw) H := hP
        have hD : va_D A (rW g ty Y pa kp ks I tl ac ((Y.1 (pa a0.toNatClampNeg).toNatClampNeg) - 16) tw) := hD
        refine lv_pop hx hb dX12_others_77 rfl ?_
        refine lv_aload_n hx hb dX12_others_78 rfl (lv_at hl 0 rfl) ?_
        refine cV_l (C := RX12) (n := 0) (rest := []) hx hb hml hown hg hT (c_X12_no l dC dI g ty H.size Y pa kp ks I tl ac ((Y.1 (pa a0.toNatClampNeg).toNatClampNeg) - 16) tw  ) (cv_of hg wM_X12_107 wN_X12_no wL_X12_X12_no wK_X12_no wI_X12 (by decide +kernel) ⟨Nat.le_of_ble_eq_true rfl, Nat.le_of_ble_eq_true rfl⟩) hK hP hD hS hA (va_recv hK hP (ci := 14) (q0 := 0) rfl rfl) rfl hl.1 rfl (Nat.le_of_ble_eq_true rfl) dX12_others_79 ⟨Nat.le_of_ble_eq_true rfl, Nat.le_of_ble_eq_true rfl⟩ (fun r_80 u_81 H locs q_79 hP hD hS => ?_)
        obtain ⟨rfl, rfl⟩ := q_79
        have hP : va_P (dC, dI) vwCl (rW g ty Y pa kp ks I tl ac ((Y.1 (pa a0.toNatClampNeg).toNatClampNeg) - 16) 1) H := hP
        have hD : va_D A (rW g ty Y pa kp ks I tl ac ((Y.1 (pa a0.toNatClampNeg).toNatClampNeg) - 16) 1) := hD
        refine cr_l (wo := fun u : rY × (Nat → Int32) × (Nat → Int32) × (Nat → Int32) × Int32 × Int32 => rW g ty u.1 u.2.1 u.2.2.1 ks I u.2.2.2.1 ac u.2.2.2.2.1 u.2.2.2.2.2) ((Y, pa, kp, tl, ((Y.1 (pa a0.toNatClampNeg).toNatClampNeg) - 16), 1)) hx hb hr hlk hS hP hD ?_ dX12_others_82
        exact ⟨0, Y, pa, kp, tl, ((Y.1 (pa a0.toNatClampNeg).toNatClampNeg) - 16), 1, rfl, rfl, (by have e9 : ((Y.1 (pa a0.toNatClampNeg).toNatClampNeg) - 16) = P.2.2.1 t := let_w (hsr.trans (by rw [kt]; rfl)); rw [e9]; exact ra_f rel hcnt htl (let_ne wf tht.1 kt))⟩

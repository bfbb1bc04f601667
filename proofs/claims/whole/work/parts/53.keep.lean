/-! ===== what the operations keep: the pool's shape, and how many things are made ===== -/
theorem and7 (b : Int32) : ∃ j : Nat, j < 8 ∧ b &&& 7 = nI j := by
  obtain ⟨j, hj, e⟩ := pk_andE b (m := 7) 3 (by decide)
  exact ⟨j, hj, e⟩
theorem let_k (z : Int32) (hz : 0 ≤ z) : ∃ j : Nat, j < 7 ∧ z - z / 7 * 7 = nI j := by
  have e : (z - z / 7 * 7).toInt = z.toInt % 7 := by
    rw [Int32.le_iff_toInt_le, ci_0] at hz
    have h7 : (7 : Int32).toInt = 7 := by decide
    have h1 := z.toInt_lt
    have ed : (z / 7).toInt = z.toInt / 7 := by
      rw [Int32.toInt_div, h7, Int.tdiv_eq_ediv_of_nonneg hz]
      exact Int.bmod_eq_of_le (by omega) (by omega)
    have em : (z / 7 * 7).toInt = z.toInt / 7 * 7 := by
      rw [Int32.toInt_mul, ed, h7]
      exact Int.bmod_eq_of_le (by omega) (by omega)
    rw [Int32.toInt_sub, em]
    rw [Int.bmod_eq_of_le (by omega) (by omega)]
    omega
  rw [Int32.le_iff_toInt_le, ci_0] at hz
  refine ⟨(z.toInt % 7).toNat, by omega, Int32.toInt_inj.mp ?_⟩
  rw [e, nI_toInt (by omega)]
  omega
theorem let_kb (b : Int32) : ∃ j : Nat, j < 7 ∧ (if b = -2147483648 then 0 else (if 0 ≤ b then b else 0 - b) - (if 0 ≤ b then b else 0 - b) / 7 * 7) = nI j := by
  by_cases h : b = -2147483648
  · rw [if_pos h]; exact ⟨0, by decide, by decide⟩
  · rw [if_neg h]
    refine let_k _ ?_
    by_cases h0 : 0 ≤ b
    · rw [if_pos h0]; exact h0
    · rw [if_neg h0]
      have hm : ¬ b.toInt = -2147483648 := fun e => h (Int32.toInt_inj.mp (by rw [e]; decide))
      rw [Int32.le_iff_toInt_le, ci_0] at h0 ⊢
      have h1 := b.le_toInt
      rw [Int32.toInt_sub, ci_0]
      rw [Int.bmod_eq_of_le (by omega) (by omega)]
      omega
section CKeep
variable {pl : Nat → Option Nat} {ac : Int64} {ft md : Int32} {Z : cZ} {P : cQ} {a0 b0 c0 : Int32} {rz : Int64}
theorem wk_new {P9 : cQ} {q k x : Nat} (wf : cWF pl P9) (h1 : q ∈ P9.1) (h2 : P9.2.1 q = k) (hk : k < 7) : cWF (va_up pl x (some q)) P9 := wf_pl wf (fun t h => by cases h; exact ⟨h1, by rw [h2]; exact hk⟩)
theorem wk_sh {t y s1 : Int32 → Nat} : True := trivial
theorem wq_makeRow (wf : cWF pl P) {u : (Nat → Option Nat) × Int32 × Int32 × cQ} (h : q_X11_makeRow a0 b0 c0 pl ac ft md Z P rz u) : cWF u.1 u.2.2.2 := by
  rcases h with ⟨_, rfl, _⟩ | ⟨_, rfl, _⟩ | ⟨_, rfl, _⟩ | ⟨q, y, _, rfl, _, _, f2, f3, f4, f5⟩
  · exact wf
  · exact wf
  · exact wf
  · exact wk_new (wf_row wf f3 f4 f5 (rem_lt100 f2) (and7 b0)) (cn_in f3).1 ((cn_in f3).2 f5) (by decide)
theorem wq_setRowCell (wf : cWF pl P) {u : Int32 × cQ} (h : q_X11_setRowCell a0 b0 c0 pl ac ft md Z P rz u) : cWF pl u.2 := by
  rcases h with ⟨_, rfl, _⟩ | ⟨_, _, rfl, _⟩ | ⟨_, rfl, _⟩ | ⟨_, _, _, rfl, _⟩ | ⟨_, _, _, rfl, _⟩
  · exact wf
  · exact wf
  · exact wf
  · exact wf
  · exact wf_lc wf _ _
theorem sh_all {q y N W n : Nat} {B P9 : cQ} (wf : cWF pl B) (h4 : q ∈ B.1 ∧ B.2.1 q = 6 ∧ B.2.2.2.2.1 q = some y ∧ B.2.2.1 q = 8 ∧ B.2.2.2.1 q = 0 ∧ B.2.2.2.2.2.1 y = N) (hW : W < 100) (h : cSh y W n B P9) :
    cWF pl P9 ∧ (q ∈ P9.1 ∧ P9.2.1 q = 6 ∧ P9.2.2.2.2.1 q = some y ∧ P9.2.2.1 q = 8 ∧ P9.2.2.2.1 q = 0 ∧ P9.2.2.2.2.2.1 y = N) := by
  induction n generalizing P9 with
  | zero => cases h; exact ⟨wf, h4⟩
  | succ n ih =>
    obtain ⟨P2, r, a, hs, hr, ha, hn, rfl⟩ := h
    obtain ⟨w2, k2⟩ := ih hs
    exact ⟨sh_wf w2 k2 hr ha hn hW, sh_J4 w2 k2 hr ha⟩
theorem wq_makeSheet (wf : cWF pl P) {u : (Nat → Option Nat) × Int32 × Int32 × cQ} (h : q_X11_makeSheet a0 b0 c0 pl ac ft md Z P rz u) : cWF u.1 u.2.2.2 := by
  rcases h with ⟨_, rfl, _⟩ | ⟨_, rfl, _⟩ | ⟨_, rfl, _⟩ | ⟨_, rfl, _⟩ | ⟨q, y, P9, _, rfl, _, _, f2, f3, f4, f5, f6, f7⟩
  · exact wf
  · exact wf
  · exact wf
  · exact wf
  · obtain ⟨w9, k9⟩ := sh_all (wf_shelf wf f4 f5 f6 (Nat.lt_trans (rem_lt9 f2) (by decide)) (Or.inl ⟨rfl, rfl⟩)) (ps_new f4 f6) (Nat.lt_trans (rem_lt9 f3) (by decide)) f7
    exact wk_new w9 k9.1 k9.2.1 (by decide)
theorem wq_takeOut {s1 : Int32} (hs : s1 = 8 ∨ s1 = 9 ∨ s1 = 11) (wf : cWF pl P) {u : (Nat → Option Nat) × Int32} (h : q_X11_takeOut s1 a0 b0 c0 pl ac ft md Z P rz u) : cWF u.1 P := by
  rcases h with ⟨_, rfl, _⟩ | ⟨_, rfl, _⟩ | ⟨_, _, rfl, _⟩ | ⟨_, rfl, _⟩ | ⟨_, _, _, rfl, _⟩ | ⟨t, y, o, _, rfl, _, _, f2, f3, f4, _, f6⟩
  · exact wf
  · exact wf
  · exact wf
  · exact wf
  · exact wf
  · refine wf_pl wf (fun z h => ?_)
    obtain ⟨m1, m2⟩ := wf.1 _ _ f2
    obtain ⟨r, e1, e2, e3, _⟩ := wf.2.2.2.1 t m1 (cIs_1 (ki_sh hs wf m1 m2 f3))
    cases f4.symm.trans e1
    exact wf.2.2.2.2.1 y _ z e2 e3 (f6.trans h)
theorem wq_putIn {s1 s2 : Int32} (hs : s1 = 8 ∨ s1 = 9 ∨ s1 = 11) (wf : cWF pl P) {u : Int32 × cQ} (h : q_X11_putIn s1 s2 a0 b0 c0 pl ac ft md Z P rz u) : cWF pl u.2 := by
  rcases h with ⟨_, rfl, _⟩ | ⟨_, _, rfl, _⟩ | ⟨_, rfl, _⟩ | ⟨_, _, rfl, _⟩ | ⟨_, rfl, _⟩ | ⟨_, _, _, rfl, _⟩ | ⟨_, _, _, _, rfl, _⟩ | ⟨t, y, o, _, rfl, _, f2, f3, _, f4, _, f6, f7⟩
  · exact wf
  · exact wf
  · exact wf
  · exact wf
  · exact wf
  · exact wf
  · exact wf
  · obtain ⟨m1, m2⟩ := wf.1 _ _ f2
    have k6 := cIs_1 (ki_sh hs wf m1 m2 f3)
    obtain ⟨ym, y8⟩ := wf_arr wf m1 k6 f4
    refine wf_rcS wf m1 k6 f4 (fun j z hz => ?_)
    by_cases hj : j = b0.toNatClampNeg
    · subst hj
      rw [va_up_self] at hz
      rcases f7 with rfl | ⟨q, rfl, _, hk⟩
      · cases hz
      · cases hz
        exact ⟨(wf.1 _ _ f6).1, (wf.1 _ _ f6).2, hk⟩
    · rw [va_up_ne _ _ hj] at hz
      have w5 := wf.2.2.2.2.1 y j z ym y8 hz
      exact ⟨w5.1, w5.2, wf.2.2.2.2.2.2.2.2.1 t y j z m1 k6 f4 hz⟩
theorem wq_makeCase (wf : cWF pl P) {u : (Nat → Option Nat) × Int32 × Int32 × cQ} (h : q_X11_makeCase a0 b0 c0 pl ac ft md Z P rz u) : cWF u.1 u.2.2.2 := by
  rcases h with ⟨_, rfl, _⟩ | ⟨_, rfl, _⟩ | ⟨_, rfl, _⟩ | ⟨q, y, _, rfl, _, _, f2, _, f3, f4, f5⟩ | ⟨q, y, _, rfl, _, _, f2, _, f3, f4, f5⟩ | ⟨q, y, _, rfl, _, _, f2, _, _, f3, f4, f5⟩
  · exact wf
  · exact wf
  · exact wf
  · exact wk_new (wf_shelf wf f3 f4 f5 (Nat.lt_trans (rem_lt40 f2) (by decide)) (Or.inr (Or.inl ⟨rfl, rfl⟩))) (cn_inS f3).1 ((cn_inS f3).2 f5) (by decide)
  · exact wk_new (wf_shelf wf f3 f4 f5 (Nat.lt_trans (rem_lt40 f2) (by decide)) (Or.inr (Or.inr (Or.inl ⟨rfl, rfl⟩)))) (cn_inS f3).1 ((cn_inS f3).2 f5) (by decide)
  · exact wk_new (wf_shelf wf f3 f4 f5 (Nat.lt_trans (rem_lt40 f2) (by decide)) (Or.inr (Or.inr (Or.inr ⟨rfl, rfl⟩)))) (cn_inS f3).1 ((cn_inS f3).2 f5) (by decide)
theorem wq_makeBox (wf : cWF pl P) {u : (Nat → Option Nat) × Int32 × Int32 × cQ} (h : q_X11_makeBox a0 b0 pl ac ft md Z P rz u) : cWF u.1 u.2.2.2 := by
  rcases h with ⟨_, rfl, _⟩ | ⟨_, rfl, _⟩ | ⟨q, _, rfl, _, _, _, f3⟩ | ⟨q, _, rfl, _, _, _, f3⟩ | ⟨q, _, rfl, _, _, _, f3⟩ | ⟨q, _, rfl, _, _, _, _, _, f3⟩
  · exact wf
  · exact wf
  · exact wk_new (wf_box wf f3 (by decide) (fun h => absurd h (by decide))) cn_inB.1 cn_inB.2 (by decide)
  · exact wk_new (wf_box wf f3 (by decide) (fun h => absurd h (by decide))) cn_inB.1 cn_inB.2 (by decide)
  · exact wk_new (wf_box wf f3 (by decide) (fun h => absurd h (by decide))) cn_inB.1 cn_inB.2 (by decide)
  · exact wk_new (wf_box wf f3 (by decide) (fun h => absurd h (by decide))) cn_inB.1 cn_inB.2 (by decide)
theorem wq_makeLetter (wf : cWF pl P) {u : (Nat → Option Nat) × Int32 × Int32 × cQ} (h : q_X11_makeLetter a0 b0 pl ac ft md Z P rz u) : cWF u.1 u.2.2.2 := by
  rcases h with ⟨_, rfl, _⟩ | ⟨_, rfl, _⟩ | ⟨q, z, _, rfl, _, _, f3, f4⟩
  · exact wf
  · exact wf
  · exact wk_new (wf_box wf f3 (by decide) (fun _ => by rw [f4]; exact let_kb b0)) cn_inB.1 cn_inB.2 (by decide)
theorem wq_changeBox (wf : cWF pl P) {u : Int32 × cQ} (h : q_X11_changeBox a0 pl ac ft md Z P rz u) : cWF pl u.2 := by
  rcases h with ⟨_, rfl, _⟩ | ⟨_, _, rfl, _⟩ | ⟨_, rfl, _⟩ | ⟨t, _, rfl, _, f2, f3⟩
  · exact wf
  · exact wf
  · exact wf
  · exact wf_va wf (cIs_2 (ki_12 wf (wf.1 _ _ f2).1 (wf.1 _ _ f2).2 f3)) _
theorem wq_linkBox (wf : cWF pl P) {u : Int32 × cQ} (h : q_X11_linkBox a0 b0 pl ac ft md Z P rz u) : cWF pl u.2 := by
  rcases h with ⟨_, rfl, _⟩ | ⟨_, _, rfl, _⟩ | ⟨_, rfl, _⟩ | ⟨_, _, rfl, _⟩ | ⟨_, rfl, _⟩ | ⟨t, o, _, rfl, _, f2, f3, _, f5, f6⟩
  · exact wf
  · exact wf
  · exact wf
  · exact wf
  · exact wf
  · refine wf_nx wf (cIs_2 (ki_12 wf (wf.1 _ _ f2).1 (wf.1 _ _ f2).2 f3)) (fun z hz => ?_)
    rcases f6 with rfl | ⟨q, rfl, hk⟩
    · cases hz
    · cases hz
      exact ⟨(wf.1 _ _ f5).1, cIs_2 (ki_12 wf (wf.1 _ _ f5).1 (wf.1 _ _ f5).2 hk)⟩
theorem wq_followBox (wf : cWF pl P) {u : (Nat → Option Nat) × Int32} (h : q_X11_followBox a0 b0 pl ac ft md Z P rz u) : cWF u.1 P := by
  rcases h with ⟨_, rfl, _⟩ | ⟨_, rfl, _⟩ | ⟨_, _, rfl, _⟩ | ⟨_, rfl, _⟩ | ⟨t, o, _, rfl, _, _, f2, f3, f4⟩
  · exact wf
  · exact wf
  · exact wf
  · exact wf
  · refine wf_pl wf (fun z hz => ?_)
    have h9 := wf.2.1 t z (wf.1 _ _ f2).1 (cIs_2 (ki_12 wf (wf.1 _ _ f2).1 (wf.1 _ _ f2).2 f3)) (f4.trans hz)
    exact ⟨h9.1, by omega⟩
theorem wq_clear (wf : cWF pl P) {u : (Nat → Option Nat) × Int32} (h : q_X11_clear a0 pl ac ft md Z P rz u) : cWF u.1 P := by
  rcases h with ⟨_, rfl, _⟩ | ⟨_, rfl, _⟩
  · exact wf
  · exact wf_pl wf (fun z hz => by cases hz)
theorem wq_move (wf : cWF pl P) {u : (Nat → Option Nat) × Int32} (h : q_X11_move a0 b0 pl ac ft md Z P rz u) : cWF u.1 P := by
  rcases h with ⟨_, rfl, _⟩ | ⟨_, rfl, _⟩ | ⟨_, rfl, _⟩
  · exact wf
  · exact wf
  · exact wf_pl wf (fun z hz => wf.1 _ z hz)
/-- what is good for a shelf stays so over the copying -/
theorem th_good {x i j n k : Nat} {src d d' : Nat → Option Nat} {b : Bool} (hs : ∀ m t, src m = some t → t ∈ P.1 ∧ P.2.1 t < 7) (hd : ∀ m t, d m = some t → t ∈ P.1 ∧ P.2.1 t < 7 ∧ kOf (P.2.1 t) (P.2.2.1 t) (P.2.2.2.1 x) = true)
    (h : cTh (kTk P x) src i j n k d = (b, d')) : ∀ m t, d' m = some t → t ∈ P.1 ∧ P.2.1 t < 7 ∧ kOf (P.2.1 t) (P.2.2.1 t) (P.2.2.2.1 x) = true := by
  induction n generalizing k d with
  | zero => cases h; exact hd
  | succ n ih =>
    rw [cTh_s] at h
    by_cases hk : kTk P x (src (i + k)) = true
    · rw [if_pos hk] at h
      refine ih (fun m t hm => ?_) h
      by_cases hm9 : m = j + k
      · subst hm9
        rw [va_up_self] at hm
        rw [hm] at hk
        exact ⟨(hs _ _ hm).1, (hs _ _ hm).2, hk⟩
      · rw [va_up_ne _ _ hm9] at hm
        exact hd m t hm
    · rw [if_neg hk] at h
      cases h; exact hd
theorem wq_copy (wf : cWF pl P) {u : Int32 × cQ} (h : q_X11_copy a0 b0 c0 pl ac ft md Z P rz u) : cWF pl u.2 := by
  rcases h with ⟨_, rfl, _⟩ | ⟨_, rfl, _⟩ | ⟨_, rfl, _⟩ | ⟨_, _, rfl, _⟩ | ⟨t1, t2, u9, _, rfl, _, _, _, _, _, _, _, hc⟩ | ⟨t1, t2, u9, _, rfl, _, _, f2, f3, k1, k2, hc⟩ | ⟨_, _, _, rfl, _⟩
  · exact wf
  · exact wf
  · exact wf
  · exact wf
  · rcases hc with ⟨_, rfl, _⟩ | ⟨_, _, rfl, _⟩ | ⟨y1, y2, rfl, _⟩
    · exact wf
    · exact wf
    · exact wf_lc wf _ _
  · obtain ⟨m1, _⟩ := wf.1 _ _ f2
    obtain ⟨m2, _⟩ := wf.1 _ _ f3
    have hd : ∀ y2, P.2.2.2.2.1 t2 = some y2 → ∀ m t, P.2.2.2.2.2.2.2 y2 m = some t → t ∈ P.1 ∧ P.2.1 t < 7 ∧ kOf (P.2.1 t) (P.2.2.1 t) (P.2.2.2.1 t2) = true := by
      intro y2 e m t h
      obtain ⟨ym, y8⟩ := wf_arr wf m2 k2 e
      have w5 := wf.2.2.2.2.1 y2 m t ym y8 h
      exact ⟨w5.1, w5.2, wf.2.2.2.2.2.2.2.2.1 t2 y2 m t m2 k2 e h⟩
    have hs : ∀ y1, P.2.2.2.2.1 t1 = some y1 → ∀ m t, P.2.2.2.2.2.2.2 y1 m = some t → t ∈ P.1 ∧ P.2.1 t < 7 := by
      intro y1 e m t h
      obtain ⟨ym, y8⟩ := wf_arr wf m1 k1 e
      exact wf.2.2.2.2.1 y1 m t ym y8 h
    rcases hc with ⟨_, rfl, _⟩ | ⟨_, _, rfl, _⟩ | ⟨y1, y2, rfl, e, e1, e2, _⟩ | ⟨y1, y2, d, rfl, _, e1, e2, _, _, e3⟩ | ⟨y1, y2, d, rfl, _, e1, e2, _, _, e3⟩
    · exact wf
    · exact wf
    · subst e
      cases e1.symm.trans e2
      refine wf_rcS wf m2 k2 e2 (fun m t h => ?_)
      unfold va_cpy at h
      split at h
      · exact hd _ e2 _ t h
      · exact hd _ e2 _ t h
    · exact wf_rcS wf m2 k2 e2 (th_good (hs _ e1) (hd _ e2) e3)
    · exact wf_rcS wf m2 k2 e2 (th_good (hs _ e1) (hd _ e2) e3)
  · exact wf
end CKeep

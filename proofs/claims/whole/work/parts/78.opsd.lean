/-- the sheets on the way, one behind the other -/
theorem sh_chain {y W n : Nat} {B P9 : cQ} (h : cSh y W n B P9) : ∃ f : Nat → cQ, f 0 = B ∧ f n = P9 ∧ (∀ k, k ≤ n → cSh y W k B (f k)) ∧ ∀ k, k < n → ∃ r a : Nat, r ∉ (f k).1 ∧ a ∉ (f k).1 ∧ a ≠ r ∧ f (k + 1) = pRc (pRow (f k) r a 0 W) y (va_up ((pRow (f k) r a 0 W).2.2.2.2.2.2.2 y) k (some r)) := by
  induction n generalizing P9 with
  | zero =>
    cases h
    refine ⟨fun _ => B, rfl, rfl, fun k hk => ?_, fun k hk => absurd hk (Nat.not_lt_zero k)⟩
    have hk0 : k = 0 := by omega
    subst hk0
    exact rfl
  | succ n ih =>
    have h0 := h
    obtain ⟨P2, r, a, hs, hr, ha, hn, e⟩ := h
    obtain ⟨f, f0, fn, fc, fs⟩ := ih hs
    refine ⟨fun k => if k ≤ n then f k else P9, ?_, ?_, fun k hk => ?_, fun k hk => ?_⟩
    · show (if 0 ≤ n then f 0 else P9) = B
      rw [if_pos (Nat.zero_le n)]; exact f0
    · show (if n + 1 ≤ n then f (n + 1) else P9) = P9
      rw [if_neg (by omega)]
    · show cSh y W k B (if k ≤ n then f k else P9)
      by_cases hk9 : k ≤ n
      · rw [if_pos hk9]; exact fc k hk9
      · rw [if_neg hk9]
        have : k = n + 1 := by omega
        subst this; exact h0
    · show ∃ r a : Nat, r ∉ (if k ≤ n then f k else P9).1 ∧ a ∉ (if k ≤ n then f k else P9).1 ∧ a ≠ r ∧ (if k + 1 ≤ n then f (k + 1) else P9) = pRc (pRow (if k ≤ n then f k else P9) r a 0 W) y (va_up ((pRow (if k ≤ n then f k else P9) r a 0 W).2.2.2.2.2.2.2 y) k (some r))
      rw [if_pos (show k ≤ n by omega)]
      by_cases hk9 : k < n
      · rw [if_pos (show k + 1 ≤ n by omega)]; exact fs k hk9
      · have : k = n := by omega
        subst this
        rw [if_neg (by omega), fn]
        exact ⟨r, a, hr, ha, hn, e⟩
section RSheet
variable {r : Int32} {Y' : rY} {pa' kp' : Nat → Int32} {ρ : Nat → Nat} {pl : Nat → Option Nat} {P : cQ} {q y N : Nat}
/-- one row more -/
theorem sh_more (wf : cWF pl P) (rel9 : rR r Y' pa' ρ pl P) (hth : Y'.2.2.2.2.2.2.2.2.2.1 = r + 1 ∧ Y'.2.2.2.2.2.2.2.2.2.1.toNatClampNeg = r.toNatClampNeg + 1) {n0 : Int32} (hn : Y'.1 r.toNatClampNeg = 0 ∧ Y'.2.2.1 r.toNatClampNeg = n0 ∧ ∀ j, j < n0.toNatClampNeg → Y'.2.2.2.2.2.1 (rFr Y' r.toNatClampNeg + j) = 0) {r9 a9 : Nat} (hr : r9 ∉ P.1) (ha : a9 ∉ P.1) (hne : a9 ≠ r9) (hk : rLk r ρ (kp' 0) (some q)) (hq : q ∈ P.1 ∧ P.2.1 q = 6 ∧ P.2.2.2.2.1 q = some y ∧ P.2.2.1 q = 8 ∧ P.2.2.2.1 q = 0 ∧ P.2.2.2.2.2.1 y = N) :
    rR (r + 1) Y' pa' (va_up ρ r.toNatClampNeg r9) pl (pRow P r9 a9 0 n0.toNatClampNeg) ∧ rLk (r + 1) (va_up ρ r.toNatClampNeg r9) (kp' 0) (some q) ∧ rLk (r + 1) (va_up ρ r.toNatClampNeg r9) r (some r9) ∧ (0 < kp' 0 ∧ kp' 0 < r + 1 ∧ va_up ρ r.toNatClampNeg r9 (kp' 0).toNatClampNeg = q) ∧ ((pRow P r9 a9 0 n0.toNatClampNeg).2.1 q = 6 ∧ (pRow P r9 a9 0 n0.toNatClampNeg).2.2.2.2.1 q = some y ∧ (pRow P r9 a9 0 n0.toNatClampNeg).2.2.2.2.2.1 y = N) := by
  have hr2 : (r + 1).toNatClampNeg = r.toNatClampNeg + 1 := by rw [← hth.1]; exact hth.2
  have hag := agr_two (P := P) (k := 5) (kk := 7) (v := 0) (w := 0) (N := n0.toNatClampNeg) hr ha hne
  have hN := rm_new wf rel9 hth.1 hr2 hr hag (nw_row hne hn.1 (congrArg Int32.toNatClampNeg hn.2.1) hn.2.2)
  have hk2 := rLk_up (q := r9) hr2 rel9.2.1.1 hk
  refine ⟨hN, hk2, lk_new rel9.2.1.1 hr2, ?_, ?_⟩
  · rcases hk2 with ⟨_, e⟩ | ⟨a, b, c⟩
    · cases e
    · exact ⟨a, b, (Option.some.inj c).symm⟩
  · obtain ⟨a0, a1, a2, a3, a4, a5, a6, a7⟩ := hag q hq.1
    obtain ⟨ym, _⟩ := wf_arr wf hq.1 hq.2.1 hq.2.2.1
    obtain ⟨b0, b1, b2, b3, b4, b5, b6, b7⟩ := hag y ym
    exact ⟨a1.trans hq.2.1, a4.trans hq.2.2.1, b5.trans hq.2.2.2.2.2⟩
end RSheet
theorem sh_cnt {Y Y9 : rY} {md k H W : Int32} (hc : rCnt Y md) (h : 0 ≤ md ∧ md ≤ 6000) (hm : md < 6000) (hH : H.toNatClampNeg < 9) (hW : W.toNatClampNeg < 9) (h0 : ¬ k < 0) (hk : k ≤ H) (h1 : Y9.2.2.2.2.2.2.2.2.2.1.toNatClampNeg ≤ Y.2.2.2.2.2.2.2.2.2.1.toNatClampNeg + 1 + k.toNatClampNeg) (h2 : Y9.2.2.2.2.2.2.2.2.2.2.toNatClampNeg ≤ Y.2.2.2.2.2.2.2.2.2.2.toNatClampNeg + H.toNatClampNeg + k.toNatClampNeg * W.toNatClampNeg) : (Y9.2.2.2.2.2.2.2.2.2.1.toNatClampNeg ≤ 54001 ∧ Y9.2.2.2.2.2.2.2.2.2.2.toNatClampNeg ≤ 594000) ∧ rCnt Y9 (md + 1) := by
  have hu := (md_up h.1 hm).2.2
  have h6 := md_6000 (md_up h.1 hm).1 (md_up h.1 hm).2.1
  have hk9 := i32_le hk
  obtain ⟨a, b⟩ := hc
  have hkw : k.toNatClampNeg * W.toNatClampNeg ≤ 64 := Nat.le_trans (Nat.mul_le_mul (show k.toNatClampNeg ≤ 8 by omega) (show W.toNatClampNeg ≤ 8 by omega)) (by decide)
  refine ⟨⟨by omega, by omega⟩, ?_, ?_⟩
  · rw [hu]; omega
  · rw [hu]; omega
theorem sh_tp {k W : Int32} {n : Int32} {a b x : Nat} (h0 : ¬ k < 0) (hm : ¬ n ≤ k) (h1 : a ≤ b + W.toNatClampNeg) (h2 : b ≤ x + k.toNatClampNeg * W.toNatClampNeg) : a ≤ x + (k + 1).toNatClampNeg * W.toNatClampNeg := by
  rw [up1_clamp h0 hm, Nat.add_mul, Nat.one_mul]
  omega
theorem sh_ll {n : Int32} {ρ : Nat → Nat} {v : Int32} {o : Option Nat} (h : rLk n ρ v o) : rLl n ρ v.toInt64 o := ⟨v, rfl, h⟩
theorem lk_sm {n : Int32} {ρ : Nat → Nat} {v : Int32} {q : Nat} (h : rLk n ρ v (some q)) : 0 < v ∧ v < n ∧ ρ v.toNatClampNeg = q := by
  rcases h with ⟨_, e⟩ | ⟨a, b, c⟩
  · cases e
  · exact ⟨a, b, (Option.some.inj c).symm⟩
set_option maxHeartbeats 800000 in
set_option maxRecDepth 100000 in
theorem c_X12_rows_4 (l : Launch) (dC : Nat → ClassId) (dI : Nat → Nat → Nat) (g : Nat → Nat) (ty : Nat → ClassId) (sz tot : Nat) (Y : rY) (pa : Nat → Int32) (kp : Nat → Int32) (ks : Int32) (I : rI) (tl : Nat → Int32) (ac : Int64) (wr : Int32) (tw : Int32) (ρ : Nat → Nat) (pl : Nat → Option Nat) (P : cQ) (md : Int32) (Z : cZ) (rz9 : Int64) (u9 : (Nat → Option Nat) × Int32 × Int32 × cQ) (a0 : Int32) (b0 : Int32) (c0 : Int32) (pre0 : rR Y.2.2.2.2.2.2.2.2.2.1 Y pa ρ pl P) (pre1 : cWF pl P) (pre2 : ks = 0) (pre3 : rCnt Y md) (pre4 : tl 5 = md) (pre5 : 0 ≤ md ∧ md ≤ 6000) (pre6 : tw = 0) (pre7 : q_X11_makeSheet a0 b0 c0 pl ac (-1) md Z P rz9 u9) (pre8 : md < 6000) : Met l yX12_rows (Cond.code yX12_rows cX12_rows 8 (some .long) :: gT) ({ frames := 3, cells := 96000 - Y.2.2.2.2.2.2.2.1, slots := 10 * (96000 - Y.2.2.2.2.2.2.2.1) + 2 * (1542237 - Y.2.2.2.2.2.2.2.2.1), locals := 82 }) (cPg (dC, dI) (rTy ty) (rW g ty Y pa kp ks I tl ac wr tw) sz tot [.ref (g 8), .int 4, .int a0, .int b0, .int c0]) (va_Ql (fun (rz : Int64) (u : rY × (Nat → Int32) × (Nat → Int32) × (Nat → Int32) × Int32 × Int32) => ∃ (r' : Int64) (Y' : rY) (pa' kp' tl' : Nat → Int32) (wr' tw' : Int32), r' = rz ∧ (Y', pa', kp', tl', wr', tw') = u ∧ rAns u9.2.1 rz9 u9.1 u9.2.2.2 u9.2.2.1 tl Y r' Y' pa' tl' wr' tw') (cBg (dC, dI) (fun u : rY × (Nat → Int32) × (Nat → Int32) × (Nat → Int32) × Int32 × Int32 => rW g ty u.1 u.2.1 u.2.2.1 ks I u.2.2.2.1 ac u.2.2.2.2.1 u.2.2.2.2.2) (va_A (rW g ty Y pa kp ks I tl ac wr tw) sz) sz tot (fun u : rY × (Nat → Int32) × (Nat → Int32) × (Nat → Int32) × Int32 × Int32 => u.1.2.2.2.2.2.2.2.1 - Y.2.2.2.2.2.2.2.1) (fun u : rY × (Nat → Int32) × (Nat → Int32) × (Nat → Int32) × Int32 × Int32 => 10 * (u.1.2.2.2.2.2.2.2.1 - Y.2.2.2.2.2.2.2.1) + 2 * (u.1.2.2.2.2.2.2.2.2.1 - Y.2.2.2.2.2.2.2.2.1))) (va_A (rW g ty Y pa kp ks I tl ac wr tw) sz)) (96000 - Y.2.2.2.2.2.2.2.1) (10 * (96000 - Y.2.2.2.2.2.2.2.1) + 2 * (1542237 - Y.2.2.2.2.2.2.2.2.1)) (va_A (rW g ty Y pa kp ks I tl ac wr tw) sz) := by
  refine cg_of (Qa := fun A => va_Ql (fun (rz : Int64) (u : rY × (Nat → Int32) × (Nat → Int32) × (Nat → Int32) × Int32 × Int32) => ∃ (r' : Int64) (Y' : rY) (pa' kp' tl' : Nat → Int32) (wr' tw' : Int32), r' = rz ∧ (Y', pa', kp', tl', wr', tw') = u ∧ rAns u9.2.1 rz9 u9.1 u9.2.2.2 u9.2.2.1 tl Y r' Y' pa' tl' wr' tw') (cBg (dC, dI) (fun u : rY × (Nat → Int32) × (Nat → Int32) × (Nat → Int32) × Int32 × Int32 => rW g ty u.1 u.2.1 u.2.2.1 ks I u.2.2.2.1 ac u.2.2.2.2.1 u.2.2.2.2.2) A sz tot (fun u : rY × (Nat → Int32) × (Nat → Int32) × (Nat → Int32) × Int32 × Int32 => u.1.2.2.2.2.2.2.2.1 - Y.2.2.2.2.2.2.2.1) (fun u : rY × (Nat → Int32) × (Nat → Int32) × (Nat → Int32) × Int32 × Int32 => 10 * (u.1.2.2.2.2.2.2.2.1 - Y.2.2.2.2.2.2.2.1) + 2 * (u.1.2.2.2.2.2.2.2.2.1 - Y.2.2.2.2.2.2.2.2.1))) A) (by decide) (Nat.le_of_ble_eq_true rfl) ?_
  intro p e s m below meth c A hx hb hr hml hown hg hlk hmn hP hK hD hT hS hA hsz htot ls hl
  have hown : s.vm.findClass RX12 = some m.cls := hown
  have rel := pre0
  have wf := pre1
  have hcnt := pre3
  have htl := pre4
  rcases pre7 with ⟨hrz, hu, g2⟩ | ⟨hrz, hu, g2, g3⟩ | ⟨hrz, hu, g2, g3, g4⟩ | ⟨hrz, hu, g2, g3, g4, g5⟩ | ⟨q, y, P9, hrz, hu, g2, g3, g4, g5, g6, g7, g8, g9⟩
  · show _
    exact absurd pre8 g2
  · show _
    have hl : lv_has ls 8 [(0, .ref (g 8)), (1, .int 4), (2, .int a0), (3, .int b0), (4, .int c0)] := hl
    refine lv_iload_n hx hb dX12_rows_0 rfl (lv_at hl 3 rfl) ?_
    refine lv_bipush (v := 7) hx hb dX12_rows_1 (by decide) ?_
    refine lv_iand hx hb dX12_rows_3 ?_
    refine lv_istore (lv' := [(5, .int (b0 &&& 7)), (0, .ref (g 8)), (1, .int 4), (2, .int a0), (3, .int b0), (4, .int c0)]) hx hb dX12_rows_4 hl (by decide) rfl (fun ls hl => ?_)
    refine lv_iload_n hx hb dX12_rows_6 rfl (lv_at hl 2 rfl) ?_
    refine lv_tableIn (off := 228) (tgt := 235) hx hb dX12_rows_7 (by decide) (by decide) (by decide) (by decide) ?_
    refine lv_aload_n hx hb dX12_rows_235 rfl (lv_at hl 1 rfl) ?_
    refine lv_iload_n hx hb dX12_rows_236 rfl (lv_at hl 3 rfl) ?_
    refine cV_i (C := RX12) (n := 1) (rest := []) hx hb hml hown hg hT (c_X12_place l dC dI g ty s.heap.size Y pa kp ks I tl ac wr tw a0 ) (cv_of hg wM_X12_83 wN_X12_place wL_X12_X12_place wK_X12_place wI_X12 (by decide +kernel) ⟨Nat.le_of_ble_eq_true rfl, Nat.le_of_ble_eq_true rfl⟩) hK hP hD hS hA (va_recv hK hP (ci := 14) (q0 := 0) rfl rfl) rfl hl.1 rfl (Nat.le_of_ble_eq_true rfl) dX12_rows_237 ⟨by show 0 + 0 ≤ 96000 - Y.2.2.2.2.2.2.2.1; omega, by show 0 + 0 ≤ 10 * (96000 - Y.2.2.2.2.2.2.2.1) + 2 * (1542237 - Y.2.2.2.2.2.2.2.2.1); omega⟩ (fun r_2 u_3 H locs q_1 hP hD hS => ?_)
    rcases q_1 with ⟨rfl, rfl, f_4⟩ | ⟨rfl, rfl, f_5⟩
    · show _
      have hP : va_P (dC, dI) vwCl (rW g ty Y pa kp ks I tl ac 2 tw) H := hP
      have hD : va_D A (rW g ty Y pa kp ks I tl ac 2 tw) := hD
      refine lv_if_eq (tgt := 266) hx hb dX12_rows_240 (by decide) (fun _ => ?_) (fun c9 => absurd (by decide) c9) 
      refine lv_aload_n hx hb dX12_rows_266 rfl (lv_at hl 1 rfl) ?_
      refine cV_l (C := RX12) (n := 0) (rest := []) hx hb hml hown hg hT (c_X12_no l dC dI g ty H.size Y pa kp ks I tl ac 2 tw  ) (cv_of hg wM_X12_107 wN_X12_no wL_X12_X12_no wK_X12_no wI_X12 (by decide +kernel) ⟨Nat.le_of_ble_eq_true rfl, Nat.le_of_ble_eq_true rfl⟩) hK hP hD hS hA (va_recv hK hP (ci := 14) (q0 := 0) rfl rfl) rfl hl.1 rfl (Nat.le_of_ble_eq_true rfl) dX12_rows_267 ⟨by show 0 + 0 + 0 ≤ 96000 - Y.2.2.2.2.2.2.2.1; omega, by show 0 + 0 + 0 ≤ 10 * (96000 - Y.2.2.2.2.2.2.2.1) + 2 * (1542237 - Y.2.2.2.2.2.2.2.2.1); omega⟩ (fun r_7 u_8 H locs q_6 hP hD hS => ?_)
      obtain ⟨rfl, rfl⟩ := q_6
      have hP : va_P (dC, dI) vwCl (rW g ty Y pa kp ks I tl ac 2 1) H := hP
      have hD : va_D A (rW g ty Y pa kp ks I tl ac 2 1) := hD
      refine W.bound (fun gb1 gb2 => ?_)
      have gb1 : H.size ≤ s.heap.size + (0 + 0 + 0) := gb1
      have gb2 : hsum H ≤ hsum s.heap + (0 + 0 + 0) := gb2
      refine W.widen (k := 96000 - Y.2.2.2.2.2.2.2.1) (n := 10 * (96000 - Y.2.2.2.2.2.2.2.1) + 2 * (1542237 - Y.2.2.2.2.2.2.2.2.1)) (by show 0 + 0 + 0 ≤ 96000 - Y.2.2.2.2.2.2.2.1; omega) (by show 0 + 0 + 0 ≤ 10 * (96000 - Y.2.2.2.2.2.2.2.1) + 2 * (1542237 - Y.2.2.2.2.2.2.2.2.1); omega) ?_
      refine gr_l (wo := fun u : rY × (Nat → Int32) × (Nat → Int32) × (Nat → Int32) × Int32 × Int32 => rW g ty u.1 u.2.1 u.2.2.1 ks I u.2.2.2.1 ac u.2.2.2.2.1 u.2.2.2.2.2) ((Y, pa, kp, tl, 2, 1)) hx hb hr hlk hS hP hD (by show H.size ≤ sz + (Y.2.2.2.2.2.2.2.1 - Y.2.2.2.2.2.2.2.1); rw [← hsz]; omega) (by show hsum H ≤ tot + (10 * (Y.2.2.2.2.2.2.2.1 - Y.2.2.2.2.2.2.2.1) + 2 * (Y.2.2.2.2.2.2.2.2.1 - Y.2.2.2.2.2.2.2.2.1)); rw [← htot]; omega) ?_ dX12_rows_270
      exact ⟨0, Y, pa, kp, tl, 2, 1, rfl, rfl, (by subst hu; subst hrz; exact ra_f (f := 2) rel hcnt htl (by decide))⟩
    · show _
      exact absurd f_5 (by assumption)
  · show _
    have hl : lv_has ls 8 [(0, .ref (g 8)), (1, .int 4), (2, .int a0), (3, .int b0), (4, .int c0)] := hl
    refine lv_iload_n hx hb dX12_rows_0 rfl (lv_at hl 3 rfl) ?_
    refine lv_bipush (v := 7) hx hb dX12_rows_1 (by decide) ?_
    refine lv_iand hx hb dX12_rows_3 ?_
    refine lv_istore (lv' := [(5, .int (b0 &&& 7)), (0, .ref (g 8)), (1, .int 4), (2, .int a0), (3, .int b0), (4, .int c0)]) hx hb dX12_rows_4 hl (by decide) rfl (fun ls hl => ?_)
    refine lv_iload_n hx hb dX12_rows_6 rfl (lv_at hl 2 rfl) ?_
    refine lv_tableIn (off := 228) (tgt := 235) hx hb dX12_rows_7 (by decide) (by decide) (by decide) (by decide) ?_
    refine lv_aload_n hx hb dX12_rows_235 rfl (lv_at hl 1 rfl) ?_
    refine lv_iload_n hx hb dX12_rows_236 rfl (lv_at hl 3 rfl) ?_
    refine cV_i (C := RX12) (n := 1) (rest := []) hx hb hml hown hg hT (c_X12_place l dC dI g ty s.heap.size Y pa kp ks I tl ac wr tw a0 ) (cv_of hg wM_X12_83 wN_X12_place wL_X12_X12_place wK_X12_place wI_X12 (by decide +kernel) ⟨Nat.le_of_ble_eq_true rfl, Nat.le_of_ble_eq_true rfl⟩) hK hP hD hS hA (va_recv hK hP (ci := 14) (q0 := 0) rfl rfl) rfl hl.1 rfl (Nat.le_of_ble_eq_true rfl) dX12_rows_237 ⟨by show 0 + 0 ≤ 96000 - Y.2.2.2.2.2.2.2.1; omega, by show 0 + 0 ≤ 10 * (96000 - Y.2.2.2.2.2.2.2.1) + 2 * (1542237 - Y.2.2.2.2.2.2.2.2.1); omega⟩ (fun r_10 u_11 H locs q_9 hP hD hS => ?_)
    rcases q_9 with ⟨rfl, rfl, f_12⟩ | ⟨rfl, rfl, f_13⟩
    · show _
      exact absurd (by assumption) f_12
    · show _
      have hP : va_P (dC, dI) vwCl (rW g ty Y pa kp ks I tl ac wr tw) H := hP
      have hD : va_D A (rW g ty Y pa kp ks I tl ac wr tw) := hD
      refine lv_if_eq (tgt := 266) hx hb dX12_rows_240 (by decide) (fun c9 => absurd c9 (by decide)) (fun _ => ?_)
      refine lv_aload_n hx hb dX12_rows_243 rfl (lv_at hl 1 rfl) ?_
      refine lv_iload_n hx hb dX12_rows_244 rfl (lv_at hl 4 rfl) ?_
      refine lv_bipush (v := 9) hx hb dX12_rows_245 (by decide) ?_
      refine lv_irem hx hb dX12_rows_247 (by decide) ?_
      refine cV_i (C := RX12) (n := 1) (rest := []) hx hb hml hown hg hT (c_X12_size l dC dI g ty H.size Y pa kp ks I tl ac wr tw (b0 - b0 / 9 * 9) ) (cv_of hg wM_X12_125 wN_X12_size wL_X12_X12_size wK_X12_size wI_X12 (by decide +kernel) ⟨Nat.le_of_ble_eq_true rfl, Nat.le_of_ble_eq_true rfl⟩) hK hP hD hS hA (va_recv hK hP (ci := 14) (q0 := 0) rfl rfl) rfl hl.1 rfl (Nat.le_of_ble_eq_true rfl) dX12_rows_248 ⟨by show 0 + 0 + 0 ≤ 96000 - Y.2.2.2.2.2.2.2.1; omega, by show 0 + 0 + 0 ≤ 10 * (96000 - Y.2.2.2.2.2.2.2.1) + 2 * (1542237 - Y.2.2.2.2.2.2.2.2.1); omega⟩ (fun r_15 u_16 H locs q_14 hP hD hS => ?_)
      rcases q_14 with ⟨rfl, rfl, f_17⟩ | ⟨rfl, rfl, f_18⟩
      · show _
        have hP : va_P (dC, dI) vwCl (rW g ty Y pa kp ks I tl ac 4 tw) H := hP
        have hD : va_D A (rW g ty Y pa kp ks I tl ac 4 tw) := hD
        refine lv_if_eq (tgt := 266) hx hb dX12_rows_251 (by decide) (fun _ => ?_) (fun c9 => absurd (by decide) c9) 
        refine lv_aload_n hx hb dX12_rows_266 rfl (lv_at hl 1 rfl) ?_
        refine cV_l (C := RX12) (n := 0) (rest := []) hx hb hml hown hg hT (c_X12_no l dC dI g ty H.size Y pa kp ks I tl ac 4 tw  ) (cv_of hg wM_X12_107 wN_X12_no wL_X12_X12_no wK_X12_no wI_X12 (by decide +kernel) ⟨Nat.le_of_ble_eq_true rfl, Nat.le_of_ble_eq_true rfl⟩) hK hP hD hS hA (va_recv hK hP (ci := 14) (q0 := 0) rfl rfl) rfl hl.1 rfl (Nat.le_of_ble_eq_true rfl) dX12_rows_267 ⟨by show 0 + 0 + 0 + 0 ≤ 96000 - Y.2.2.2.2.2.2.2.1; omega, by show 0 + 0 + 0 + 0 ≤ 10 * (96000 - Y.2.2.2.2.2.2.2.1) + 2 * (1542237 - Y.2.2.2.2.2.2.2.2.1); omega⟩ (fun r_20 u_21 H locs q_19 hP hD hS => ?_)
        obtain ⟨rfl, rfl⟩ := q_19
        have hP : va_P (dC, dI) vwCl (rW g ty Y pa kp ks I tl ac 4 1) H := hP
        have hD : va_D A (rW g ty Y pa kp ks I tl ac 4 1) := hD
        refine W.bound (fun gb1 gb2 => ?_)
        have gb1 : H.size ≤ s.heap.size + (0 + 0 + 0 + 0) := gb1
        have gb2 : hsum H ≤ hsum s.heap + (0 + 0 + 0 + 0) := gb2
        refine W.widen (k := 96000 - Y.2.2.2.2.2.2.2.1) (n := 10 * (96000 - Y.2.2.2.2.2.2.2.1) + 2 * (1542237 - Y.2.2.2.2.2.2.2.2.1)) (by show 0 + 0 + 0 + 0 ≤ 96000 - Y.2.2.2.2.2.2.2.1; omega) (by show 0 + 0 + 0 + 0 ≤ 10 * (96000 - Y.2.2.2.2.2.2.2.1) + 2 * (1542237 - Y.2.2.2.2.2.2.2.2.1); omega) ?_
        refine gr_l (wo := fun u : rY × (Nat → Int32) × (Nat → Int32) × (Nat → Int32) × Int32 × Int32 => rW g ty u.1 u.2.1 u.2.2.1 ks I u.2.2.2.1 ac u.2.2.2.2.1 u.2.2.2.2.2) ((Y, pa, kp, tl, 4, 1)) hx hb hr hlk hS hP hD (by show H.size ≤ sz + (Y.2.2.2.2.2.2.2.1 - Y.2.2.2.2.2.2.2.1); rw [← hsz]; omega) (by show hsum H ≤ tot + (10 * (Y.2.2.2.2.2.2.2.1 - Y.2.2.2.2.2.2.2.1) + 2 * (Y.2.2.2.2.2.2.2.2.1 - Y.2.2.2.2.2.2.2.2.1)); rw [← htot]; omega) ?_ dX12_rows_270
        exact ⟨0, Y, pa, kp, tl, 4, 1, rfl, rfl, (by subst hu; subst hrz; exact ra_f (f := 4) rel hcnt htl (by decide))⟩
      · show _
        exact absurd f_18 (by assumption)
  · show _
    have hl : lv_has ls 8 [(0, .ref (g 8)), (1, .int 4), (2, .int a0), (3, .int b0), (4, .int c0)] := hl
    refine lv_iload_n hx hb dX12_rows_0 rfl (lv_at hl 3 rfl) ?_
    refine lv_bipush (v := 7) hx hb dX12_rows_1 (by decide) ?_
    refine lv_iand hx hb dX12_rows_3 ?_
    refine lv_istore (lv' := [(5, .int (b0 &&& 7)), (0, .ref (g 8)), (1, .int 4), (2, .int a0), (3, .int b0), (4, .int c0)]) hx hb dX12_rows_4 hl (by decide) rfl (fun ls hl => ?_)
    refine lv_iload_n hx hb dX12_rows_6 rfl (lv_at hl 2 rfl) ?_
    refine lv_tableIn (off := 228) (tgt := 235) hx hb dX12_rows_7 (by decide) (by decide) (by decide) (by decide) ?_
    refine lv_aload_n hx hb dX12_rows_235 rfl (lv_at hl 1 rfl) ?_
    refine lv_iload_n hx hb dX12_rows_236 rfl (lv_at hl 3 rfl) ?_
    refine cV_i (C := RX12) (n := 1) (rest := []) hx hb hml hown hg hT (c_X12_place l dC dI g ty s.heap.size Y pa kp ks I tl ac wr tw a0 ) (cv_of hg wM_X12_83 wN_X12_place wL_X12_X12_place wK_X12_place wI_X12 (by decide +kernel) ⟨Nat.le_of_ble_eq_true rfl, Nat.le_of_ble_eq_true rfl⟩) hK hP hD hS hA (va_recv hK hP (ci := 14) (q0 := 0) rfl rfl) rfl hl.1 rfl (Nat.le_of_ble_eq_true rfl) dX12_rows_237 ⟨by show 0 + 0 ≤ 96000 - Y.2.2.2.2.2.2.2.1; omega, by show 0 + 0 ≤ 10 * (96000 - Y.2.2.2.2.2.2.2.1) + 2 * (1542237 - Y.2.2.2.2.2.2.2.2.1); omega⟩ (fun r_23 u_24 H locs q_22 hP hD hS => ?_)
    rcases q_22 with ⟨rfl, rfl, f_25⟩ | ⟨rfl, rfl, f_26⟩
    · show _
      exact absurd (by assumption) f_25
    · show _
      have hP : va_P (dC, dI) vwCl (rW g ty Y pa kp ks I tl ac wr tw) H := hP
      have hD : va_D A (rW g ty Y pa kp ks I tl ac wr tw) := hD
      refine lv_if_eq (tgt := 266) hx hb dX12_rows_240 (by decide) (fun c9 => absurd c9 (by decide)) (fun _ => ?_)
      refine lv_aload_n hx hb dX12_rows_243 rfl (lv_at hl 1 rfl) ?_
      refine lv_iload_n hx hb dX12_rows_244 rfl (lv_at hl 4 rfl) ?_
      refine lv_bipush (v := 9) hx hb dX12_rows_245 (by decide) ?_
      refine lv_irem hx hb dX12_rows_247 (by decide) ?_
      refine cV_i (C := RX12) (n := 1) (rest := []) hx hb hml hown hg hT (c_X12_size l dC dI g ty H.size Y pa kp ks I tl ac wr tw (b0 - b0 / 9 * 9) ) (cv_of hg wM_X12_125 wN_X12_size wL_X12_X12_size wK_X12_size wI_X12 (by decide +kernel) ⟨Nat.le_of_ble_eq_true rfl, Nat.le_of_ble_eq_true rfl⟩) hK hP hD hS hA (va_recv hK hP (ci := 14) (q0 := 0) rfl rfl) rfl hl.1 rfl (Nat.le_of_ble_eq_true rfl) dX12_rows_248 ⟨by show 0 + 0 + 0 ≤ 96000 - Y.2.2.2.2.2.2.2.1; omega, by show 0 + 0 + 0 ≤ 10 * (96000 - Y.2.2.2.2.2.2.2.1) + 2 * (1542237 - Y.2.2.2.2.2.2.2.2.1); omega⟩ (fun r_28 u_29 H locs q_27 hP hD hS => ?_)
      rcases q_27 with ⟨rfl, rfl, f_30⟩ | ⟨rfl, rfl, f_31⟩
      · show _
        exact absurd (by assumption) f_30
      · show _
        have hP : va_P (dC, dI) vwCl (rW g ty Y pa kp ks I tl ac wr tw) H := hP
        have hD : va_D A (rW g ty Y pa kp ks I tl ac wr tw) := hD
        refine lv_if_eq (tgt := 266) hx hb dX12_rows_251 (by decide) (fun c9 => absurd c9 (by decide)) (fun _ => ?_)
        refine lv_aload_n hx hb dX12_rows_254 rfl (lv_at hl 1 rfl) ?_
        refine lv_iload hx hb dX12_rows_255 (lv_at hl 5 rfl) ?_
        refine lv_bipush (v := 9) hx hb dX12_rows_257 (by decide) ?_
        refine lv_irem hx hb dX12_rows_259 (by decide) ?_
        refine cV_i (C := RX12) (n := 1) (rest := []) hx hb hml hown hg hT (c_X12_size l dC dI g ty H.size Y pa kp ks I tl ac wr tw (c0 - c0 / 9 * 9) ) (cv_of hg wM_X12_125 wN_X12_size wL_X12_X12_size wK_X12_size wI_X12 (by decide +kernel) ⟨Nat.le_of_ble_eq_true rfl, Nat.le_of_ble_eq_true rfl⟩) hK hP hD hS hA (va_recv hK hP (ci := 14) (q0 := 0) rfl rfl) rfl hl.1 rfl (Nat.le_of_ble_eq_true rfl) dX12_rows_260 ⟨by show 0 + 0 + 0 + 0 ≤ 96000 - Y.2.2.2.2.2.2.2.1; omega, by show 0 + 0 + 0 + 0 ≤ 10 * (96000 - Y.2.2.2.2.2.2.2.1) + 2 * (1542237 - Y.2.2.2.2.2.2.2.2.1); omega⟩ (fun r_33 u_34 H locs q_32 hP hD hS => ?_)
        rcases q_32 with ⟨rfl, rfl, f_35⟩ | ⟨rfl, rfl, f_36⟩
        · show _
          have hP : va_P (dC, dI) vwCl (rW g ty Y pa kp ks I tl ac 4 tw) H := hP
          have hD : va_D A (rW g ty Y pa kp ks I tl ac 4 tw) := hD
          refine lv_if_ne (tgt := 271) hx hb dX12_rows_263 (by decide) (fun c9 => absurd (by decide) c9) (fun _ => ?_)
          refine lv_aload_n hx hb dX12_rows_266 rfl (lv_at hl 1 rfl) ?_
          refine cV_l (C := RX12) (n := 0) (rest := []) hx hb hml hown hg hT (c_X12_no l dC dI g ty H.size Y pa kp ks I tl ac 4 tw  ) (cv_of hg wM_X12_107 wN_X12_no wL_X12_X12_no wK_X12_no wI_X12 (by decide +kernel) ⟨Nat.le_of_ble_eq_true rfl, Nat.le_of_ble_eq_true rfl⟩) hK hP hD hS hA (va_recv hK hP (ci := 14) (q0 := 0) rfl rfl) rfl hl.1 rfl (Nat.le_of_ble_eq_true rfl) dX12_rows_267 ⟨by show 0 + 0 + 0 + 0 + 0 ≤ 96000 - Y.2.2.2.2.2.2.2.1; omega, by show 0 + 0 + 0 + 0 + 0 ≤ 10 * (96000 - Y.2.2.2.2.2.2.2.1) + 2 * (1542237 - Y.2.2.2.2.2.2.2.2.1); omega⟩ (fun r_38 u_39 H locs q_37 hP hD hS => ?_)
          obtain ⟨rfl, rfl⟩ := q_37
          have hP : va_P (dC, dI) vwCl (rW g ty Y pa kp ks I tl ac 4 1) H := hP
          have hD : va_D A (rW g ty Y pa kp ks I tl ac 4 1) := hD
          refine W.bound (fun gb1 gb2 => ?_)
          have gb1 : H.size ≤ s.heap.size + (0 + 0 + 0 + 0 + 0) := gb1
          have gb2 : hsum H ≤ hsum s.heap + (0 + 0 + 0 + 0 + 0) := gb2
          refine W.widen (k := 96000 - Y.2.2.2.2.2.2.2.1) (n := 10 * (96000 - Y.2.2.2.2.2.2.2.1) + 2 * (1542237 - Y.2.2.2.2.2.2.2.2.1)) (by show 0 + 0 + 0 + 0 + 0 ≤ 96000 - Y.2.2.2.2.2.2.2.1; omega) (by show 0 + 0 + 0 + 0 + 0 ≤ 10 * (96000 - Y.2.2.2.2.2.2.2.1) + 2 * (1542237 - Y.2.2.2.2.2.2.2.2.1); omega) ?_
          refine gr_l (wo := fun u : rY × (Nat → Int32) × (Nat → Int32) × (Nat → Int32) × Int32 × Int32 => rW g ty u.1 u.2.1 u.2.2.1 ks I u.2.2.2.1 ac u.2.2.2.2.1 u.2.2.2.2.2) ((Y, pa, kp, tl, 4, 1)) hx hb hr hlk hS hP hD (by show H.size ≤ sz + (Y.2.2.2.2.2.2.2.1 - Y.2.2.2.2.2.2.2.1); rw [← hsz]; omega) (by show hsum H ≤ tot + (10 * (Y.2.2.2.2.2.2.2.1 - Y.2.2.2.2.2.2.2.1) + 2 * (Y.2.2.2.2.2.2.2.2.1 - Y.2.2.2.2.2.2.2.2.1)); rw [← htot]; omega) ?_ dX12_rows_270
          exact ⟨0, Y, pa, kp, tl, 4, 1, rfl, rfl, (by subst hu; subst hrz; exact ra_f (f := 4) rel hcnt htl (by decide))⟩
        · show _
          exact absurd f_36 (by assumption)
  · show _
    have hl : lv_has ls 8 [(0, .ref (g 8)), (1, .int 4), (2, .int a0), (3, .int b0), (4, .int c0)] := hl
    refine lv_iload_n hx hb dX12_rows_0 rfl (lv_at hl 3 rfl) ?_
    refine lv_bipush (v := 7) hx hb dX12_rows_1 (by decide) ?_
    refine lv_iand hx hb dX12_rows_3 ?_
    refine lv_istore (lv' := [(5, .int (b0 &&& 7)), (0, .ref (g 8)), (1, .int 4), (2, .int a0), (3, .int b0), (4, .int c0)]) hx hb dX12_rows_4 hl (by decide) rfl (fun ls hl => ?_)
    refine lv_iload_n hx hb dX12_rows_6 rfl (lv_at hl 2 rfl) ?_
    refine lv_tableIn (off := 228) (tgt := 235) hx hb dX12_rows_7 (by decide) (by decide) (by decide) (by decide) ?_
    refine lv_aload_n hx hb dX12_rows_235 rfl (lv_at hl 1 rfl) ?_
    refine lv_iload_n hx hb dX12_rows_236 rfl (lv_at hl 3 rfl) ?_
    refine cV_i (C := RX12) (n := 1) (rest := []) hx hb hml hown hg hT (c_X12_place l dC dI g ty s.heap.size Y pa kp ks I tl ac wr tw a0 ) (cv_of hg wM_X12_83 wN_X12_place wL_X12_X12_place wK_X12_place wI_X12 (by decide +kernel) ⟨Nat.le_of_ble_eq_true rfl, Nat.le_of_ble_eq_true rfl⟩) hK hP hD hS hA (va_recv hK hP (ci := 14) (q0 := 0) rfl rfl) rfl hl.1 rfl (Nat.le_of_ble_eq_true rfl) dX12_rows_237 ⟨by show 0 + 0 ≤ 96000 - Y.2.2.2.2.2.2.2.1; omega, by show 0 + 0 ≤ 10 * (96000 - Y.2.2.2.2.2.2.2.1) + 2 * (1542237 - Y.2.2.2.2.2.2.2.2.1); omega⟩ (fun r_41 u_42 H locs q_40 hP hD hS => ?_)
    rcases q_40 with ⟨rfl, rfl, f_43⟩ | ⟨rfl, rfl, f_44⟩
    · show _
      exact absurd (by assumption) f_43
    · show _
      have hP : va_P (dC, dI) vwCl (rW g ty Y pa kp ks I tl ac wr tw) H := hP
      have hD : va_D A (rW g ty Y pa kp ks I tl ac wr tw) := hD
      refine lv_if_eq (tgt := 266) hx hb dX12_rows_240 (by decide) (fun c9 => absurd c9 (by decide)) (fun _ => ?_)
      refine lv_aload_n hx hb dX12_rows_243 rfl (lv_at hl 1 rfl) ?_
      refine lv_iload_n hx hb dX12_rows_244 rfl (lv_at hl 4 rfl) ?_
      refine lv_bipush (v := 9) hx hb dX12_rows_245 (by decide) ?_
      refine lv_irem hx hb dX12_rows_247 (by decide) ?_
      refine cV_i (C := RX12) (n := 1) (rest := []) hx hb hml hown hg hT (c_X12_size l dC dI g ty H.size Y pa kp ks I tl ac wr tw (b0 - b0 / 9 * 9) ) (cv_of hg wM_X12_125 wN_X12_size wL_X12_X12_size wK_X12_size wI_X12 (by decide +kernel) ⟨Nat.le_of_ble_eq_true rfl, Nat.le_of_ble_eq_true rfl⟩) hK hP hD hS hA (va_recv hK hP (ci := 14) (q0 := 0) rfl rfl) rfl hl.1 rfl (Nat.le_of_ble_eq_true rfl) dX12_rows_248 ⟨by show 0 + 0 + 0 ≤ 96000 - Y.2.2.2.2.2.2.2.1; omega, by show 0 + 0 + 0 ≤ 10 * (96000 - Y.2.2.2.2.2.2.2.1) + 2 * (1542237 - Y.2.2.2.2.2.2.2.2.1); omega⟩ (fun r_46 u_47 H locs q_45 hP hD hS => ?_)
      rcases q_45 with ⟨rfl, rfl, f_48⟩ | ⟨rfl, rfl, f_49⟩
      · show _
        exact absurd (by assumption) f_48
      · show _
        have hP : va_P (dC, dI) vwCl (rW g ty Y pa kp ks I tl ac wr tw) H := hP
        have hD : va_D A (rW g ty Y pa kp ks I tl ac wr tw) := hD
        refine lv_if_eq (tgt := 266) hx hb dX12_rows_251 (by decide) (fun c9 => absurd c9 (by decide)) (fun _ => ?_)
        refine lv_aload_n hx hb dX12_rows_254 rfl (lv_at hl 1 rfl) ?_
        refine lv_iload hx hb dX12_rows_255 (lv_at hl 5 rfl) ?_
        refine lv_bipush (v := 9) hx hb dX12_rows_257 (by decide) ?_
        refine lv_irem hx hb dX12_rows_259 (by decide) ?_
        refine cV_i (C := RX12) (n := 1) (rest := []) hx hb hml hown hg hT (c_X12_size l dC dI g ty H.size Y pa kp ks I tl ac wr tw (c0 - c0 / 9 * 9) ) (cv_of hg wM_X12_125 wN_X12_size wL_X12_X12_size wK_X12_size wI_X12 (by decide +kernel) ⟨Nat.le_of_ble_eq_true rfl, Nat.le_of_ble_eq_true rfl⟩) hK hP hD hS hA (va_recv hK hP (ci := 14) (q0 := 0) rfl rfl) rfl hl.1 rfl (Nat.le_of_ble_eq_true rfl) dX12_rows_260 ⟨by show 0 + 0 + 0 + 0 ≤ 96000 - Y.2.2.2.2.2.2.2.1; omega, by show 0 + 0 + 0 + 0 ≤ 10 * (96000 - Y.2.2.2.2.2.2.2.1) + 2 * (1542237 - Y.2.2.2.2.2.2.2.2.1); omega⟩ (fun r_51 u_52 H locs q_50 hP hD hS => ?_)
        rcases q_50 with ⟨rfl, rfl, f_53⟩ | ⟨rfl, rfl, f_54⟩
        · show _
          exact absurd (by assumption) f_53
        · show _
          have hP : va_P (dC, dI) vwCl (rW g ty Y pa kp ks I tl ac wr tw) H := hP
          have hD : va_D A (rW g ty Y pa kp ks I tl ac wr tw) := hD
          refine lv_if_ne (tgt := 271) hx hb dX12_rows_263 (by decide) (fun _ => ?_) (fun c9 => absurd c9 (by decide)) 
          refine lv_aload_n hx hb dX12_rows_271 rfl (lv_at hl 1 rfl) ?_
          refine va_get (D := (dC, dI)) (ci := 14) (v := .ref (g 15)) (C := RX12) (T := TX12) (N := 21) hx hb hg inG12 hown hK hP 0 rfl rfl 18 (by decide) (hg _ wF_X12_52) (fun _ h9 => h9) rfl dX12_rows_272 ?_
          refine lv_iconst (v := 0) hx hb dX12_rows_275 (by decide) ?_
          refine lv_aload_n hx hb dX12_rows_276 rfl (lv_at hl 1 rfl) ?_
          refine lv_bipush (v := 8) hx hb dX12_rows_277 (by decide) ?_
          refine lv_iload_n hx hb dX12_rows_279 rfl (lv_at hl 4 rfl) ?_
          refine lv_bipush (v := 9) hx hb dX12_rows_280 (by decide) ?_
          refine lv_irem hx hb dX12_rows_282 (by decide) ?_
          refine gV_i (C := RX12) (n := 2) (rest := [.int 0, .ref (g 15)]) hx hb hml hown hg hT (c_X12_make l dC dI g ty H.size (hsum H) Y pa kp ks I tl ac wr tw ρ pl P none 8 (b0 - b0 / 9 * 9) (by exact rel) (by exact wf) (by exact Or.inl pre2) (by exact ⟨g4, by have := rem_lt9 g4; omega⟩) (by exact cnt_ok hcnt pre5 pre8)) (cv_of hg wM_X12_128 wN_X12_make wL_X12_X12_make wK_X12_make wI_X12 (by decide +kernel) ⟨Nat.le_of_ble_eq_true rfl, Nat.le_of_ble_eq_true rfl⟩) hK hP hD hS hA (va_recv hK hP (ci := 14) (q0 := 0) rfl rfl) rfl hl.1 rfl (Nat.le_of_ble_eq_true rfl) dX12_rows_283 ⟨by show 0 + 0 + 0 + 0 + (96000 - Y.2.2.2.2.2.2.2.1) ≤ 96000 - Y.2.2.2.2.2.2.2.1; omega, by show 0 + 0 + 0 + 0 + (10 * (96000 - Y.2.2.2.2.2.2.2.1) + 2 * (1542237 - Y.2.2.2.2.2.2.2.2.1)) ≤ 10 * (96000 - Y.2.2.2.2.2.2.2.1) + 2 * (1542237 - Y.2.2.2.2.2.2.2.2.1); omega⟩ (fun r_56 u_57 H locs q_55 hP hD hS => ?_)
          obtain ⟨r'_58, Y'_59, pa'_60, kp'_61, rfl, rfl, f_62⟩ := q_55
          have hP : va_P (dC, dI) vwCl (rW g ty Y'_59 pa'_60 kp'_61 ks I tl ac wr tw) H := hP
          have hD : va_D A (rW g ty Y'_59 pa'_60 kp'_61 ks I tl ac wr tw) := hD
          obtain ⟨ρ9, rel9, hk9, hth9, hn9, hle9, hgr9⟩ := f_62
          have hgr8 := hgr9.1
          have hgr7 := hgr9.2
          have hlc9 := rl_L rel9.1
          have hin9 : vp_in r'_58 Y'_59.2.2.2.2.2.2.2.1 := i32_in (i32_pos rel9.2.1.1).1 (by have := rel9.1.1.2; have := hth9.2; omega)
          obtain ⟨f9, ff0, ffn, ffc, ffs⟩ := sh_chain g9
          have hr2 : (r'_58 + 1).toNatClampNeg = r'_58.toNatClampNeg + 1 := by rw [← hth9.1]; exact hth9.2
          have hag9 := agr_two (P := P) (k := 6) (kk := 8) (v := 8) (w := 0) (N := (b0 - b0 / 9 * 9).toNatClampNeg) g6 g7 g8
          have rel2 := rm_new wf rel9 hth9.1 hr2 g6 hag9 (nw_shelf g8 hn9.1 (congrArg Int32.toNatClampNeg hn9.2.1) hn9.2.2)
          have hkp2 := lk_new (ρ := ρ9) (q := q) rel9.2.1.1 hr2
          have hall := fun k h9 => sh_all (W := (c0 - c0 / 9 * 9).toNatClampNeg) (n := k) (P9 := f9 k) (wf_shelf wf g6 g7 g8 (Nat.lt_trans (rem_lt9 g4) (by decide)) (Or.inl ⟨rfl, rfl⟩)) (ps_new g6 g8) (Nat.lt_trans (rem_lt9 g5) (by decide)) (ffc k h9)
          refine va_iast hx hb hK hP hD hS 13 0 rfl rfl (by exact i32_in (by decide) (by decide)) dX12_rows_286 (fun H locs hP hD hS => ?_)
          have hP : va_P (dC, dI) vwCl (rW g ty Y'_59 pa'_60 (upd kp'_61 0 r'_58) ks I tl ac wr tw) H := hP
          have hD : va_D A (rW g ty Y'_59 pa'_60 (upd kp'_61 0 r'_58) ks I tl ac wr tw) := hD
          refine lv_aload_n hx hb dX12_rows_287 rfl (lv_at hl 1 rfl) ?_
          refine lv_iconst (v := 1) hx hb dX12_rows_288 (by decide) ?_
          refine va_put (D := (dC, dI)) (ci := 14) (v := .int 1) (ty := .int) (C := RX12) (T := TX12) (N := 21) hx hb hg inG12 tyX12 tyX12_ok nmX12 hown hK hP hD hS 0 rfl rfl 19 (by decide) (hg _ wF_X12_69) (fun _ h9 => h9) rfl (by decide +kernel) rfl rfl (Nat.le_of_ble_eq_true rfl) dX12_rows_289 (fun H locs hP hD hS => ?_)
          have hP : va_P (dC, dI) vwCl (rW g ty Y'_59 pa'_60 (upd kp'_61 0 r'_58) 1 I tl ac wr tw) H := hP
          have hD : va_D A (rW g ty Y'_59 pa'_60 (upd kp'_61 0 r'_58) 1 I tl ac wr tw) := hD
          refine lv_iconst (v := 0) hx hb dX12_rows_292 (by decide) ?_
          refine lv_istore (lv' := [(6, .int 0), (5, .int (b0 &&& 7)), (0, .ref (g 8)), (1, .int 4), (2, .int a0), (3, .int b0), (4, .int c0)]) hx hb dX12_rows_293 hl (by decide) rfl (fun ls hl => ?_)
          have LOOP295 : ∀ (N295 : Nat) (kk : Int32) (Y9 : rY) (pa9 : Nat → Int32) (kp9 : Nat → Int32) (H : Heap) (locs : List Loc) (ls : Array Slot), (b0 - b0 / 9 * 9).toNatClampNeg - kk.toNatClampNeg = N295 → (¬ kk < 0) → (kk ≤ (b0 - b0 / 9 * 9)) → (∃ ρk : Nat → Nat, rR Y9.2.2.2.2.2.2.2.2.2.1 Y9 pa9 ρk pl (f9 kk.toNatClampNeg) ∧ rLk Y9.2.2.2.2.2.2.2.2.2.1 ρk (kp9 0) (some q)) → (Y9.2.2.2.2.2.2.2.2.2.1.toNatClampNeg ≤ Y.2.2.2.2.2.2.2.2.2.1.toNatClampNeg + 1 + kk.toNatClampNeg) → (Y9.2.2.2.2.2.2.2.2.2.2.toNatClampNeg ≤ Y.2.2.2.2.2.2.2.2.2.2.toNatClampNeg + (b0 - b0 / 9 * 9).toNatClampNeg + kk.toNatClampNeg * (c0 - c0 / 9 * 9).toNatClampNeg) → (Y.2.2.2.2.2.2.2.1 ≤ Y9.2.2.2.2.2.2.2.1 ∧ Y.2.2.2.2.2.2.2.2.1 ≤ Y9.2.2.2.2.2.2.2.2.1) → va_P (dC, dI) vwCl (rW g ty Y9 pa9 kp9 1 I tl ac wr tw) H → va_D A (rW g ty Y9 pa9 kp9 1 I tl ac wr tw) → va_S A s.heap H locs → lv_has ls 8 [(0, .ref (g 8)), (1, .int 4), (2, .int a0), (3, .int b0), (4, .int c0), (6, .int kk)] → W p l e ({ frames := 3, cells := 96000 - Y.2.2.2.2.2.2.2.1, slots := 10 * (96000 - Y.2.2.2.2.2.2.2.1) + 2 * (1542237 - Y.2.2.2.2.2.2.2.2.1), locals := 82 }) s m ([.ref (g 8), .int 4, .int a0, .int b0, .int c0]).toArray below meth c H locs (Y9.2.2.2.2.2.2.2.1 - Y.2.2.2.2.2.2.2.1) (10 * (Y9.2.2.2.2.2.2.2.1 - Y.2.2.2.2.2.2.2.1) + 2 * (Y9.2.2.2.2.2.2.2.2.1 - Y.2.2.2.2.2.2.2.2.1)) (MQ below (va_Ql (fun (rz : Int64) (u : rY × (Nat → Int32) × (Nat → Int32) × (Nat → Int32) × Int32 × Int32) => ∃ (r' : Int64) (Y' : rY) (pa' kp' tl' : Nat → Int32) (wr' tw' : Int32), r' = rz ∧ (Y', pa', kp', tl', wr', tw') = u ∧ rAns u9.2.1 rz9 u9.1 u9.2.2.2 u9.2.2.1 tl Y r' Y' pa' tl' wr' tw') (cBg (dC, dI) (fun u : rY × (Nat → Int32) × (Nat → Int32) × (Nat → Int32) × Int32 × Int32 => rW g ty u.1 u.2.1 u.2.2.1 ks I u.2.2.2.1 ac u.2.2.2.2.1 u.2.2.2.2.2) A sz tot (fun u : rY × (Nat → Int32) × (Nat → Int32) × (Nat → Int32) × Int32 × Int32 => u.1.2.2.2.2.2.2.2.1 - Y.2.2.2.2.2.2.2.1) (fun u : rY × (Nat → Int32) × (Nat → Int32) × (Nat → Int32) × Int32 × Int32 => 10 * (u.1.2.2.2.2.2.2.2.1 - Y.2.2.2.2.2.2.2.1) + 2 * (u.1.2.2.2.2.2.2.2.2.1 - Y.2.2.2.2.2.2.2.2.1))) A) ([.ref (g 8), .int 4, .int a0, .int b0, .int c0]).toArray s (96000 - Y.2.2.2.2.2.2.2.1) (10 * (96000 - Y.2.2.2.2.2.2.2.1) + 2 * (1542237 - Y.2.2.2.2.2.2.2.2.1)) A) (F0 m 295 ls []) := by
            intro N295
            induction N295 using Nat.strongRecOn with
            | _ N295 IH295 =>
              intro kk Y9 pa9 kp9 H locs ls hN295 s0 s1 s2 s3 s4 s5 hP hD hS hl
              obtain ⟨ρk, relk, hkk⟩ := s2
              have hlk9 := rl_L relk.1
              have hs5 := s5.1
              have hs6 := s5.2
              refine lv_iload hx hb dX12_rows_295 (lv_at hl 5 rfl) ?_
              refine lv_iload_n hx hb dX12_rows_297 rfl (lv_at hl 3 rfl) ?_
              refine lv_bipush (v := 9) hx hb dX12_rows_298 (by decide) ?_
              refine lv_irem hx hb dX12_rows_300 (by decide) ?_
              refine lv_icmp_ge (tgt := 337) hx hb dX12_rows_301 (by decide) (fun c_63 => ?_) (fun c_63 => ?_)
              · show _
                refine lv_aload_n hx hb dX12_rows_337 rfl (lv_at hl 0 rfl) ?_
                refine va_get (D := (dC, dI)) (ci := 14) (v := .ref (g 9)) (C := RX12) (T := TX12) (N := 21) hx hb hg inG12 hown hK hP 0 rfl rfl 8 (by decide) (hg _ wF_X12_34) (fun _ h9 => h9) rfl dX12_rows_338 ?_
                refine lv_iload_n hx hb dX12_rows_341 rfl (lv_at hl 2 rfl) ?_
                refine lv_aload_n hx hb dX12_rows_342 rfl (lv_at hl 0 rfl) ?_
                refine va_get (D := (dC, dI)) (ci := 14) (v := .ref (g 15)) (C := RX12) (T := TX12) (N := 21) hx hb hg inG12 hown hK hP 0 rfl rfl 18 (by decide) (hg _ wF_X12_52) (fun _ h9 => h9) rfl dX12_rows_343 ?_
                refine lv_iconst (v := 0) hx hb dX12_rows_346 (by decide) ?_
                refine va_iald hx hb hK hP 13 0 rfl rfl (by exact i32_in (by decide) (by decide)) dX12_rows_347 ?_
                refine va_iast hx hb hK hP hD hS 7 0 rfl rfl (by assumption) dX12_rows_348 (fun H locs hP hD hS => ?_)
                have hP : va_P (dC, dI) vwCl (rW g ty Y9 (upd pa9 a0.toNatClampNeg (kp9 0)) kp9 1 I tl ac wr tw) H := hP
                have hD : va_D A (rW g ty Y9 (upd pa9 a0.toNatClampNeg (kp9 0)) kp9 1 I tl ac wr tw) := hD
                refine lv_aload_n hx hb dX12_rows_349 rfl (lv_at hl 0 rfl) ?_
                refine lv_iconst (v := 0) hx hb dX12_rows_350 (by decide) ?_
                refine va_put (D := (dC, dI)) (ci := 14) (v := .int 0) (ty := .int) (C := RX12) (T := TX12) (N := 21) hx hb hg inG12 tyX12 tyX12_ok nmX12 hown hK hP hD hS 0 rfl rfl 19 (by decide) (hg _ wF_X12_69) (fun _ h9 => h9) rfl (by decide +kernel) rfl rfl (Nat.le_of_ble_eq_true rfl) dX12_rows_351 (fun H locs hP hD hS => ?_)
                have hP : va_P (dC, dI) vwCl (rW g ty Y9 (upd pa9 a0.toNatClampNeg (kp9 0)) kp9 0 I tl ac wr tw) H := hP
                have hD : va_D A (rW g ty Y9 (upd pa9 a0.toNatClampNeg (kp9 0)) kp9 0 I tl ac wr tw) := hD
                refine lv_aload_n hx hb dX12_rows_354 rfl (lv_at hl 0 rfl) ?_
                refine va_get (D := (dC, dI)) (ci := 14) (v := .ref (g 14)) (C := RX12) (T := TX12) (N := 21) hx hb hg inG12 hown hK hP 0 rfl rfl 17 (by decide) (hg _ wF_X12_49) (fun _ h9 => h9) rfl dX12_rows_355 ?_
                refine lv_iconst (v := 5) hx hb dX12_rows_358 (by decide) ?_
                refine lv_dup2_11 hx hb dX12_rows_359 rfl rfl ?_
                refine va_iald hx hb hK hP 12 0 rfl rfl (by exact i32_in (by decide) (by decide)) dX12_rows_360 ?_
                refine lv_iconst (v := 1) hx hb dX12_rows_361 (by decide) ?_
                refine lv_iadd hx hb dX12_rows_362 ?_
                refine va_iast hx hb hK hP hD hS 12 0 rfl rfl (by exact i32_in (by decide) (by decide)) dX12_rows_363 (fun H locs hP hD hS => ?_)
                have hP : va_P (dC, dI) vwCl (rW g ty Y9 (upd pa9 a0.toNatClampNeg (kp9 0)) kp9 0 I (upd tl 5 ((tl 5) + 1)) ac wr tw) H := hP
                have hD : va_D A (rW g ty Y9 (upd pa9 a0.toNatClampNeg (kp9 0)) kp9 0 I (upd tl 5 ((tl 5) + 1)) ac wr tw) := hD
                have hP9 := hP
                have hD9 := hD
                have hP : va_P (dC, dI) vwCl (rW g ty Y9 (upd pa9 a0.toNatClampNeg (kp9 0)) kp9 ks I (upd tl 5 ((tl 5) + 1)) ac wr tw) H := by rw [pre2]; exact hP9
                have hD : va_D A (rW g ty Y9 (upd pa9 a0.toNatClampNeg (kp9 0)) kp9 ks I (upd tl 5 ((tl 5) + 1)) ac wr tw) := by rw [pre2]; exact hD9
                refine lv_lconst (v := 0) hx hb dX12_rows_364 (by decide) ?_
                refine W.bound (fun gb1 gb2 => ?_)
                have gb1 : H.size ≤ s.heap.size + (Y9.2.2.2.2.2.2.2.1 - Y.2.2.2.2.2.2.2.1) := gb1
                have gb2 : hsum H ≤ hsum s.heap + (10 * (Y9.2.2.2.2.2.2.2.1 - Y.2.2.2.2.2.2.2.1) + 2 * (Y9.2.2.2.2.2.2.2.2.1 - Y.2.2.2.2.2.2.2.2.1)) := gb2
                refine W.widen (k := 96000 - Y.2.2.2.2.2.2.2.1) (n := 10 * (96000 - Y.2.2.2.2.2.2.2.1) + 2 * (1542237 - Y.2.2.2.2.2.2.2.2.1)) (by show Y9.2.2.2.2.2.2.2.1 - Y.2.2.2.2.2.2.2.1 ≤ 96000 - Y.2.2.2.2.2.2.2.1; omega) (by show 10 * (Y9.2.2.2.2.2.2.2.1 - Y.2.2.2.2.2.2.2.1) + 2 * (Y9.2.2.2.2.2.2.2.2.1 - Y.2.2.2.2.2.2.2.2.1) ≤ 10 * (96000 - Y.2.2.2.2.2.2.2.1) + 2 * (1542237 - Y.2.2.2.2.2.2.2.2.1); omega) ?_
                refine gr_l (wo := fun u : rY × (Nat → Int32) × (Nat → Int32) × (Nat → Int32) × Int32 × Int32 => rW g ty u.1 u.2.1 u.2.2.1 ks I u.2.2.2.1 ac u.2.2.2.2.1 u.2.2.2.2.2) ((Y9, (upd pa9 a0.toNatClampNeg (kp9 0)), kp9, (upd tl 5 ((tl 5) + 1)), wr, tw)) hx hb hr hlk hS hP hD (by show H.size ≤ sz + (Y9.2.2.2.2.2.2.2.1 - Y.2.2.2.2.2.2.2.1); rw [← hsz]; omega) (by show hsum H ≤ tot + (10 * (Y9.2.2.2.2.2.2.2.1 - Y.2.2.2.2.2.2.2.1) + 2 * (Y9.2.2.2.2.2.2.2.2.1 - Y.2.2.2.2.2.2.2.2.1)); rw [← htot]; omega) ?_ dX12_rows_365
                exact ⟨0, Y9, (upd pa9 a0.toNatClampNeg (kp9 0)), kp9, (upd tl 5 ((tl 5) + 1)), wr, tw, rfl, rfl, (by subst hu; subst hrz; subst pre6; have hke := gf_eq s1 (by assumption); rw [hke] at relk s3 s4; have hcn := sh_cnt (Y := Y) (Y9 := Y9) hcnt pre5 pre8 (rem_lt9 g4) (rem_lt9 g5) (by rw [← hke]; exact s0) (Int32.le_refl _) s3 s4; rw [show f9 _ = P9 from ffn] at relk; exact ⟨Or.inl ⟨rfl, rfl, rfl⟩, by rw [htl], hcn.2, s5, _, rw_pl relk (by assumption) hkk⟩)⟩
              · show _
                have hlt9 := k1_lt s0 (by assumption)
                have hwk := hall _ (Nat.le_of_lt hlt9)
                have hcn := sh_cnt (Y := Y) (Y9 := Y9) hcnt pre5 pre8 (rem_lt9 g4) (rem_lt9 g5) s0 s1 s3 s4
                refine lv_aload_n hx hb dX12_rows_304 rfl (lv_at hl 0 rfl) ?_
                refine lv_iconst (v := 0) hx hb dX12_rows_305 (by decide) ?_
                refine lv_iload hx hb dX12_rows_306 (lv_at hl 4 rfl) ?_
                refine lv_bipush (v := 9) hx hb dX12_rows_308 (by decide) ?_
                refine lv_irem hx hb dX12_rows_310 (by decide) ?_
                refine gV_i (C := RX12) (n := 2) (rest := []) hx hb hml hown hg hT (c_X12_make l dC dI g ty H.size (hsum H) Y9 pa9 kp9 1 I tl ac wr tw ρk pl (f9 kk.toNatClampNeg) (some q) 0 (c0 - c0 / 9 * 9) (by exact relk) (by exact hwk.1) (by exact Or.inr ⟨rfl, hkk⟩) (by exact ⟨g5, by have := rem_lt9 g5; omega⟩) (by exact hcn.1)) (cv_of hg wM_X12_128 wN_X12_make wL_X12_X12_make wK_X12_make wI_X12 (by decide +kernel) ⟨Nat.le_of_ble_eq_true rfl, Nat.le_of_ble_eq_true rfl⟩) hK hP hD hS hA (va_recv hK hP (ci := 14) (q0 := 0) rfl rfl) rfl hl.1 rfl (Nat.le_of_ble_eq_true rfl) dX12_rows_311 ⟨by show Y9.2.2.2.2.2.2.2.1 - Y.2.2.2.2.2.2.2.1 + (96000 - Y9.2.2.2.2.2.2.2.1) ≤ 96000 - Y.2.2.2.2.2.2.2.1; omega, by show 10 * (Y9.2.2.2.2.2.2.2.1 - Y.2.2.2.2.2.2.2.1) + 2 * (Y9.2.2.2.2.2.2.2.2.1 - Y.2.2.2.2.2.2.2.2.1) + (10 * (96000 - Y9.2.2.2.2.2.2.2.1) + 2 * (1542237 - Y9.2.2.2.2.2.2.2.2.1)) ≤ 10 * (96000 - Y.2.2.2.2.2.2.2.1) + 2 * (1542237 - Y.2.2.2.2.2.2.2.2.1); omega⟩ (fun r_65 u_66 H locs q_64 hP hD hS => ?_)
                obtain ⟨r'_67, Y'_68, pa'_69, kp'_70, rfl, rfl, f_71⟩ := q_64
                have hP : va_P (dC, dI) vwCl (rW g ty Y'_68 pa'_69 kp'_70 1 I tl ac wr tw) H := hP
                have hD : va_D A (rW g ty Y'_68 pa'_69 kp'_70 1 I tl ac wr tw) := hD
                obtain ⟨ρ8, rel8, hk8, hth8, hn8, hle8, hgr6⟩ := f_71
                have hk7 := (hk8.resolve_left (by decide)).2
                obtain ⟨r9, a9, hr9, ha9, hne9, hfe9⟩ := ffs _ hlt9
                have hsm9 := sh_more hwk.1 rel8 hth8 hn8 hr9 ha9 hne9 hk7 hwk.2
                rw [← hth8.1] at hsm9
                have hvs9 := rv_shelf hsm9.1 hsm9.2.2.2.1.1 hsm9.2.2.2.1.2.1 hsm9.2.2.2.1.2.2 hsm9.2.2.2.2.1 hsm9.2.2.2.2.2.1
                have hin8 := i32_in (n := _) (nn_of s0) (show kk.toNatClampNeg < (pRow (f9 kk.toNatClampNeg) r9 a9 0 (c0 - c0 / 9 * 9).toNatClampNeg).2.2.2.2.2.1 y by rw [hsm9.2.2.2.2.2.2]; exact hlt9)
                have hrw9 := rw_shelf (wf_row hwk.1 hr9 ha9 hne9 (Nat.lt_trans (rem_lt9 g5) (by decide)) ⟨0, by decide, rfl⟩) hsm9.1 hsm9.2.2.2.1.1 hsm9.2.2.2.1.2.1 hsm9.2.2.2.1.2.2 hsm9.2.2.2.2.1 hsm9.2.2.2.2.2.1 hin8 (sh_ll hsm9.2.2.1) rfl
                have hgr5 := hgr6.1
                have hgr4 := hgr6.2
                have hlc8 := rl_L rel8.1
                refine lv_istore (lv' := [(7, .int r'_67), (0, .ref (g 8)), (1, .int 4), (2, .int a0), (3, .int b0), (4, .int c0), (6, .int kk)]) hx hb dX12_rows_314 hl (by decide) rfl (fun ls hl => ?_)
                refine lv_aload_n hx hb dX12_rows_316 rfl (lv_at hl 1 rfl) ?_
                refine lv_aload_n hx hb dX12_rows_317 rfl (lv_at hl 1 rfl) ?_
                refine va_get (D := (dC, dI)) (ci := 14) (v := .ref (g 15)) (C := RX12) (T := TX12) (N := 21) hx hb hg inG12 hown hK hP 0 rfl rfl 18 (by decide) (hg _ wF_X12_52) (fun _ h9 => h9) rfl dX12_rows_318 ?_
                refine lv_iconst (v := 0) hx hb dX12_rows_321 (by decide) ?_
                refine va_iald hx hb hK hP 13 0 rfl rfl (by exact i32_in (by decide) (by decide)) dX12_rows_322 ?_
                refine lv_iload hx hb dX12_rows_323 (lv_at hl 6 rfl) ?_
                refine lv_iload hx hb dX12_rows_325 (lv_at hl 0 rfl) ?_
                refine lv_i2l (v := (r'_67.toInt64)) hx hb dX12_rows_327 rfl ?_
                refine cV_v (C := RX12) (n := 3) (rest := []) hx hb hml hown hg hT (c_X12_put l dC dI g ty H.size Y'_68 pa'_69 kp'_70 1 I tl ac wr tw (kp'_70 0) kk (r'_67.toInt64) (by exact hvs9.1) (by exact (hvs9.2.2.2 _ hin8).1)) (cv_of hg wM_X12_151 wN_X12_put wL_X12_X12_put wK_X12_put wI_X12 (by decide +kernel) ⟨Nat.le_of_ble_eq_true rfl, Nat.le_of_ble_eq_true rfl⟩) hK hP hD hS hA (va_recv hK hP (ci := 14) (q0 := 0) rfl rfl) rfl hl.1 rfl (Nat.le_of_ble_eq_true rfl) dX12_rows_328 ⟨by show Y9.2.2.2.2.2.2.2.1 - Y.2.2.2.2.2.2.2.1 + (Y'_68.2.2.2.2.2.2.2.1 - Y9.2.2.2.2.2.2.2.1) + 0 ≤ 96000 - Y.2.2.2.2.2.2.2.1; omega, by show 10 * (Y9.2.2.2.2.2.2.2.1 - Y.2.2.2.2.2.2.2.1) + 2 * (Y9.2.2.2.2.2.2.2.2.1 - Y.2.2.2.2.2.2.2.2.1) + (10 * (Y'_68.2.2.2.2.2.2.2.1 - Y9.2.2.2.2.2.2.2.1) + 2 * (Y'_68.2.2.2.2.2.2.2.2.1 - Y9.2.2.2.2.2.2.2.2.1)) + 0 ≤ 10 * (96000 - Y.2.2.2.2.2.2.2.1) + 2 * (1542237 - Y.2.2.2.2.2.2.2.2.1); omega⟩ (fun u_74 H locs q_72 hP hD hS => ?_)
                obtain rfl := q_72
                have hP : va_P (dC, dI) vwCl (rW g ty (Y'_68.1, Y'_68.2.1, Y'_68.2.2.1, Y'_68.2.2.2.1, Y'_68.2.2.2.2.1, (vp_updL Y'_68.2.2.2.2.2.1 (Y'_68.2.1 (kp'_70 0).toNatClampNeg + kk).toNatClampNeg (r'_67.toInt64)), Y'_68.2.2.2.2.2.2.1, Y'_68.2.2.2.2.2.2.2.1, Y'_68.2.2.2.2.2.2.2.2.1, Y'_68.2.2.2.2.2.2.2.2.2.1, Y'_68.2.2.2.2.2.2.2.2.2.2) pa'_69 kp'_70 1 I tl ac wr tw) H := hP
                have hD : va_D A (rW g ty (Y'_68.1, Y'_68.2.1, Y'_68.2.2.1, Y'_68.2.2.2.1, Y'_68.2.2.2.2.1, (vp_updL Y'_68.2.2.2.2.2.1 (Y'_68.2.1 (kp'_70 0).toNatClampNeg + kk).toNatClampNeg (r'_67.toInt64)), Y'_68.2.2.2.2.2.2.1, Y'_68.2.2.2.2.2.2.2.1, Y'_68.2.2.2.2.2.2.2.2.1, Y'_68.2.2.2.2.2.2.2.2.2.1, Y'_68.2.2.2.2.2.2.2.2.2.2) pa'_69 kp'_70 1 I tl ac wr tw) := hD
                refine lv_iinc (v := (kk + 1)) (lv' := [(6, .int (kk + 1)), (7, .int r'_67), (0, .ref (g 8)), (1, .int 4), (2, .int a0), (3, .int b0), (4, .int c0)]) hx hb dX12_rows_331 hl (k := 6) rfl rfl (by decide) rfl (fun ls hl => ?_)
                refine lv_goto (tgt := 295) hx hb dX12_rows_334 (by decide) ?_
                have hc9 := up1_clamp s0 (by assumption)
                refine W.widen (k := Y'_68.2.2.2.2.2.2.2.1 - Y.2.2.2.2.2.2.2.1) (n := 10 * (Y'_68.2.2.2.2.2.2.2.1 - Y.2.2.2.2.2.2.2.1) + 2 * (Y'_68.2.2.2.2.2.2.2.2.1 - Y.2.2.2.2.2.2.2.2.1)) (by show Y9.2.2.2.2.2.2.2.1 - Y.2.2.2.2.2.2.2.1 + (Y'_68.2.2.2.2.2.2.2.1 - Y9.2.2.2.2.2.2.2.1) + 0 ≤ Y'_68.2.2.2.2.2.2.2.1 - Y.2.2.2.2.2.2.2.1; omega) (by show 10 * (Y9.2.2.2.2.2.2.2.1 - Y.2.2.2.2.2.2.2.1) + 2 * (Y9.2.2.2.2.2.2.2.2.1 - Y.2.2.2.2.2.2.2.2.1) + (10 * (Y'_68.2.2.2.2.2.2.2.1 - Y9.2.2.2.2.2.2.2.1) + 2 * (Y'_68.2.2.2.2.2.2.2.2.1 - Y9.2.2.2.2.2.2.2.2.1)) + 0 ≤ 10 * (Y'_68.2.2.2.2.2.2.2.1 - Y.2.2.2.2.2.2.2.1) + 2 * (Y'_68.2.2.2.2.2.2.2.2.1 - Y.2.2.2.2.2.2.2.2.1); omega) ?_
                exact IH295 _ (by rw [← hN295]; exact th_dec s0 (by assumption)) (kk + 1) (Y'_68.1, Y'_68.2.1, Y'_68.2.2.1, Y'_68.2.2.2.1, Y'_68.2.2.2.2.1, (vp_updL Y'_68.2.2.2.2.2.1 (Y'_68.2.1 (kp'_70 0).toNatClampNeg + kk).toNatClampNeg (r'_67.toInt64)), Y'_68.2.2.2.2.2.2.1, Y'_68.2.2.2.2.2.2.2.1, Y'_68.2.2.2.2.2.2.2.2.1, Y'_68.2.2.2.2.2.2.2.2.2.1, Y'_68.2.2.2.2.2.2.2.2.2.2) pa'_69 kp'_70 _ _ _ rfl (by exact k1_nn s0 (by assumption)) (by exact k1_le (by assumption)) (by rw [hc9, hfe9]; exact ⟨_, hrw9, hsm9.2.1⟩) (by rw [hc9]; show Y'_68.2.2.2.2.2.2.2.2.2.1.toNatClampNeg ≤ _; have := hth8.2; have := hle8.1; omega) (by exact sh_tp s0 (by assumption) hle8.2 s4) (by exact ⟨Nat.le_trans s5.1 hgr6.1, Nat.le_trans s5.2 hgr6.2⟩) hP hD hS (lv_sub hl [2, 3, 4, 5, 6, 0] rfl)
          refine W.widen (k := Y'_59.2.2.2.2.2.2.2.1 - Y.2.2.2.2.2.2.2.1) (n := 10 * (Y'_59.2.2.2.2.2.2.2.1 - Y.2.2.2.2.2.2.2.1) + 2 * (Y'_59.2.2.2.2.2.2.2.2.1 - Y.2.2.2.2.2.2.2.2.1)) (by show 0 + 0 + 0 + 0 + (Y'_59.2.2.2.2.2.2.2.1 - Y.2.2.2.2.2.2.2.1) ≤ Y'_59.2.2.2.2.2.2.2.1 - Y.2.2.2.2.2.2.2.1; omega) (by show 0 + 0 + 0 + 0 + (10 * (Y'_59.2.2.2.2.2.2.2.1 - Y.2.2.2.2.2.2.2.1) + 2 * (Y'_59.2.2.2.2.2.2.2.2.1 - Y.2.2.2.2.2.2.2.2.1)) ≤ 10 * (Y'_59.2.2.2.2.2.2.2.1 - Y.2.2.2.2.2.2.2.1) + 2 * (Y'_59.2.2.2.2.2.2.2.2.1 - Y.2.2.2.2.2.2.2.2.1); omega) ?_
          exact LOOP295 _ 0 Y'_59 pa'_60 (upd kp'_61 0 r'_58) _ _ _ rfl (by decide) (by exact g4) (by exact ⟨_, by rw [show f9 (0 : Int32).toNatClampNeg = _ from ff0, hth9.1]; exact rel2, by rw [hth9.1, upd_at', if_pos rfl]; exact hkp2⟩) (by have := hth9.2; have := hle9.1; omega) (by have := hle9.2; omega) (by exact hgr9) hP hD hS (lv_sub hl [2, 3, 4, 5, 6, 0] rfl)

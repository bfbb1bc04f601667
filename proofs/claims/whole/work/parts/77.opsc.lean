theorem cnt_ok {Y : rY} {md : Int32} (hc : rCnt Y md) (h : 0 ≤ md ∧ md ≤ 6000) (hm : md < 6000) : Y.2.2.2.2.2.2.2.2.2.1.toNatClampNeg ≤ 54001 ∧ Y.2.2.2.2.2.2.2.2.2.2.toNatClampNeg ≤ 594000 := by
  have := (md_up h.1 hm).2.2
  have h6 := md_6000 (md_up h.1 hm).1 (md_up h.1 hm).2.1
  obtain ⟨a, b⟩ := hc
  constructor <;> omega
section RMk
variable {Y Y' : rY} {pa' tl : Nat → Int32} {ρ : Nat → Nat} {pl : Nat → Option Nat} {P P2 : cQ} {md wr r n0 a0 : Int32} {q : Nat} {rr rz : Int64}
theorem ra_mk (wf : cWF pl P) (hc : rCnt Y md) (hmd : 0 ≤ md ∧ md ≤ 6000) (hm : md < 6000) (ht : tl 5 = md) (rel9 : rR r Y' pa' ρ pl P) (hth : Y'.2.2.2.2.2.2.2.2.2.1 = r + 1 ∧ Y'.2.2.2.2.2.2.2.2.2.1.toNatClampNeg = r.toNatClampNeg + 1) (hle : r.toNatClampNeg ≤ Y.2.2.2.2.2.2.2.2.2.1.toNatClampNeg ∧ Y'.2.2.2.2.2.2.2.2.2.2.toNatClampNeg ≤ Y.2.2.2.2.2.2.2.2.2.2.toNatClampNeg + n0.toNatClampNeg) (hn0 : n0.toNatClampNeg ≤ 99) (hgr : Y.2.2.2.2.2.2.2.1 ≤ Y'.2.2.2.2.2.2.2.1 ∧ Y.2.2.2.2.2.2.2.2.1 ≤ Y'.2.2.2.2.2.2.2.2.1)
    (ha : vp_in a0 32) (hq : q ∉ P.1) (hag : agr P P2) (hnew : rTh (r + 1) Y' (va_up ρ r.toNatClampNeg q) P2 r.toNatClampNeg) (he : rr = rz) : rAns (-1) rz (va_up pl a0.toNatClampNeg (some q)) P2 (md + 1) tl Y rr Y' (upd pa' a0.toNatClampNeg r) (upd tl 5 (tl 5 + 1)) wr 0 := by
  have hr2 : (r + 1).toNatClampNeg = r.toNatClampNeg + 1 := by rw [← hth.1]; exact hth.2
  have hN := rm_new wf rel9 hth.1 hr2 hq hag hnew
  have hu := (md_up hmd.1 hm).2.2
  refine ⟨Or.inl ⟨rfl, rfl, he⟩, by rw [ht], ⟨?_, ?_⟩, hgr, _, by rw [hth.1]; exact rw_pl hN ha (lk_new rel9.2.1.1 hr2)⟩
  · rw [hth.2, hu]; have := hc.1; omega
  · rw [hu]; have := hc.2; omega
/-- the cells of the new one -/
theorem nb_at (rel9 : rR r Y' pa' ρ pl P) (hth : Y'.2.2.2.2.2.2.2.2.2.1 = r + 1 ∧ Y'.2.2.2.2.2.2.2.2.2.1.toNatClampNeg = r.toNatClampNeg + 1) (hn : Y'.2.2.1 r.toNatClampNeg = 3) : vp_in r Y'.2.2.2.2.2.2.2.1 ∧ (∀ k : Int32, vp_in k 3 → vp_in (Y'.2.1 r.toNatClampNeg + k) Y'.2.2.2.2.2.2.2.2.1 ∧ (Y'.2.1 r.toNatClampNeg + k).toNatClampNeg = rFr Y' r.toNatClampNeg + k.toNatClampNeg) ∧ rMn Y' r.toNatClampNeg = 3 ∧ r.toNatClampNeg < Y'.2.2.2.2.2.2.2.2.2.1.toNatClampNeg := by
  have hp := i32_pos rel9.2.1.1
  have hm : rMn Y' r.toNatClampNeg = 3 := by show (Y'.2.2.1 r.toNatClampNeg).toNatClampNeg = 3; rw [hn]; decide
  refine ⟨i32_in hp.1 (by have := rel9.1.1.2; omega), fun k hk => ?_, hm, by omega⟩
  have := ix_of rel9.1 hp.2.2 (by omega) (i := k.toNatClampNeg) (by rw [hm]; exact (i32_inR hk).2)
  rw [← (i32_nI hk).1] at this
  exact ⟨this.2.2.2, this.2.1⟩
theorem nb_box {k : Nat} {v w : Int32} {x : Int64} {Z0 : rY} (wf : cWF pl P) (hx : x = v.toInt64) (rel9 : rR r Y' pa' ρ pl P) (hth : Y'.2.2.2.2.2.2.2.2.2.1 = r + 1 ∧ Y'.2.2.2.2.2.2.2.2.2.1.toNatClampNeg = r.toNatClampNeg + 1) (hn : Y'.1 r.toNatClampNeg = rSt k v ∧ Y'.2.2.1 r.toNatClampNeg = 3 ∧ ∀ j, j < (3 : Int32).toNatClampNeg → Y'.2.2.2.2.2.1 (rFr Y' r.toNatClampNeg + j) = 0) (hk : k < 4) (hw : k < 2 → w = v)
    (hZ : Z0 = (Y'.1, Y'.2.1, Y'.2.2.1, Y'.2.2.2.1, Y'.2.2.2.2.1, vp_updL (vp_updL Y'.2.2.2.2.2.1 (Y'.2.1 r.toNatClampNeg + 0).toNatClampNeg x) (Y'.2.1 r.toNatClampNeg + 2).toNatClampNeg x, Y'.2.2.2.2.2.2.1, Y'.2.2.2.2.2.2.2.1, Y'.2.2.2.2.2.2.2.2.1, Y'.2.2.2.2.2.2.2.2.2.1, Y'.2.2.2.2.2.2.2.2.2.2)) :
    rR r Z0 pa' ρ pl P ∧ rTh (r + 1) Z0 (va_up ρ r.toNatClampNeg q) (pBox P q k v w) r.toNatClampNeg := by
  obtain ⟨_, h2, h3, h4⟩ := nb_at rel9 hth hn.2.1
  have e0 := (h2 0 (i32_in (by decide) (by decide))).2
  have e2 := (h2 2 (i32_in (by decide) (by decide))).2
  rw [show (0 : Int32).toNatClampNeg = 0 by decide] at e0
  rw [show (2 : Int32).toNatClampNeg = 2 by decide] at e2
  rw [e0, e2] at hZ
  have r1 := rw_oth (x := x) rel9 (Nat.le_refl _) h4 (show 0 < rMn Y' r.toNatClampNeg by rw [h3]; decide) rfl
  have r2 := rw_oth (x := x) r1 (Nat.le_refl _) h4 (show 2 < rMn Y' r.toNatClampNeg by rw [h3]; decide) rfl
  have z1 := hn.2.2 1 (by decide)
  refine ⟨by rw [hZ]; exact r2, ?_⟩
  rw [hZ]
  refine nw_box hk hw hn.1 h3 ?_ ?_ ?_
  · show vp_updL (vp_updL _ _ _) _ _ (rFr Y' r.toNatClampNeg) = _
    simp [vp_updL, hx]
  · show vp_updL (vp_updL _ _ _) _ _ (rFr Y' r.toNatClampNeg + 1) = _
    have : ¬ 1 = 0 := by decide
    simp [vp_updL, z1]
  · show vp_updL (vp_updL _ _ _) _ _ (rFr Y' r.toNatClampNeg + 2) = _
    simp [vp_updL, hx]
end RMk
theorem st_b {b : Int32} {k : Nat} {v x : Int32} (h : x = rSt k v) : x = rSt k v := h
theorem and3 {b : Int32} (h0 : ¬ b &&& 3 = 0) (h1 : ¬ b &&& 3 = 1) (h2 : ¬ b &&& 3 = 2) : b &&& 3 = 3 := by
  obtain ⟨j, hj, e⟩ := pk_andE b (m := 3) 2 (by decide)
  rw [e] at h0 h1 h2 ⊢
  have hj : j < 4 := hj
  rcases (show j = 0 ∨ j = 1 ∨ j = 2 ∨ j = 3 by omega) with rfl | rfl | rfl | rfl
  · exact absurd rfl h0
  · exact absurd rfl h1
  · exact absurd rfl h2
  · rfl
theorem neg_sub (b : Int32) : -b = 0 - b := by rw [Int32.zero_sub]
set_option maxHeartbeats 800000 in
set_option maxRecDepth 100000 in
theorem c_X12_rows_0 (l : Launch) (dC : Nat → ClassId) (dI : Nat → Nat → Nat) (g : Nat → Nat) (ty : Nat → ClassId) (sz tot : Nat) (Y : rY) (pa : Nat → Int32) (kp : Nat → Int32) (ks : Int32) (I : rI) (tl : Nat → Int32) (ac : Int64) (wr : Int32) (tw : Int32) (ρ : Nat → Nat) (pl : Nat → Option Nat) (P : cQ) (md : Int32) (Z : cZ) (rz9 : Int64) (u9 : (Nat → Option Nat) × Int32 × Int32 × cQ) (a0 : Int32) (b0 : Int32) (c0 : Int32) (pre0 : rR Y.2.2.2.2.2.2.2.2.2.1 Y pa ρ pl P) (pre1 : cWF pl P) (pre2 : ks = 0) (pre3 : rCnt Y md) (pre4 : tl 5 = md) (pre5 : 0 ≤ md ∧ md ≤ 6000) (pre6 : tw = 0) (pre7 : q_X11_makeRow a0 b0 c0 pl ac (-1) md Z P rz9 u9) (pre8 : md < 6000) : Met l yX12_rows (Cond.code yX12_rows cX12_rows 8 (some .long) :: gT) ({ frames := 3, cells := 96000 - Y.2.2.2.2.2.2.2.1, slots := 10 * (96000 - Y.2.2.2.2.2.2.2.1) + 2 * (1542237 - Y.2.2.2.2.2.2.2.2.1), locals := 82 }) (cPg (dC, dI) (rTy ty) (rW g ty Y pa kp ks I tl ac wr tw) sz tot [.ref (g 8), .int 0, .int a0, .int b0, .int c0]) (va_Ql (fun (rz : Int64) (u : rY × (Nat → Int32) × (Nat → Int32) × (Nat → Int32) × Int32 × Int32) => ∃ (r' : Int64) (Y' : rY) (pa' kp' tl' : Nat → Int32) (wr' tw' : Int32), r' = rz ∧ (Y', pa', kp', tl', wr', tw') = u ∧ rAns u9.2.1 rz9 u9.1 u9.2.2.2 u9.2.2.1 tl Y r' Y' pa' tl' wr' tw') (cBg (dC, dI) (fun u : rY × (Nat → Int32) × (Nat → Int32) × (Nat → Int32) × Int32 × Int32 => rW g ty u.1 u.2.1 u.2.2.1 ks I u.2.2.2.1 ac u.2.2.2.2.1 u.2.2.2.2.2) (va_A (rW g ty Y pa kp ks I tl ac wr tw) sz) sz tot (fun u : rY × (Nat → Int32) × (Nat → Int32) × (Nat → Int32) × Int32 × Int32 => u.1.2.2.2.2.2.2.2.1 - Y.2.2.2.2.2.2.2.1) (fun u : rY × (Nat → Int32) × (Nat → Int32) × (Nat → Int32) × Int32 × Int32 => 10 * (u.1.2.2.2.2.2.2.2.1 - Y.2.2.2.2.2.2.2.1) + 2 * (u.1.2.2.2.2.2.2.2.2.1 - Y.2.2.2.2.2.2.2.2.1))) (va_A (rW g ty Y pa kp ks I tl ac wr tw) sz)) (96000 - Y.2.2.2.2.2.2.2.1) (10 * (96000 - Y.2.2.2.2.2.2.2.1) + 2 * (1542237 - Y.2.2.2.2.2.2.2.2.1)) (va_A (rW g ty Y pa kp ks I tl ac wr tw) sz) := by
  refine cg_of (Qa := fun A => va_Ql (fun (rz : Int64) (u : rY × (Nat → Int32) × (Nat → Int32) × (Nat → Int32) × Int32 × Int32) => ∃ (r' : Int64) (Y' : rY) (pa' kp' tl' : Nat → Int32) (wr' tw' : Int32), r' = rz ∧ (Y', pa', kp', tl', wr', tw') = u ∧ rAns u9.2.1 rz9 u9.1 u9.2.2.2 u9.2.2.1 tl Y r' Y' pa' tl' wr' tw') (cBg (dC, dI) (fun u : rY × (Nat → Int32) × (Nat → Int32) × (Nat → Int32) × Int32 × Int32 => rW g ty u.1 u.2.1 u.2.2.1 ks I u.2.2.2.1 ac u.2.2.2.2.1 u.2.2.2.2.2) A sz tot (fun u : rY × (Nat → Int32) × (Nat → Int32) × (Nat → Int32) × Int32 × Int32 => u.1.2.2.2.2.2.2.2.1 - Y.2.2.2.2.2.2.2.1) (fun u : rY × (Nat → Int32) × (Nat → Int32) × (Nat → Int32) × Int32 × Int32 => 10 * (u.1.2.2.2.2.2.2.2.1 - Y.2.2.2.2.2.2.2.1) + 2 * (u.1.2.2.2.2.2.2.2.2.1 - Y.2.2.2.2.2.2.2.2.1))) A) (by decide) (Nat.le_of_ble_eq_true rfl) ?_
  intro p e s m below meth c A hx hb hr hml hown hg hlk hmn hP hK hD hT hS hA hsz htot ls hl
  have hown : s.vm.findClass RX12 = some m.cls := hown
  have rel := pre0
  have wf := pre1
  have hcnt := pre3
  have htl := pre4
  rcases pre7 with ⟨rfl, rfl, g2⟩ | ⟨rfl, rfl, g2, g3⟩ | ⟨rfl, rfl, g2, g3, g4⟩ | ⟨q, y, rfl, rfl, g2, g3, g4, g5, g6, g7⟩
  · show _
    exact absurd pre8 g2
  · show _
    have hl : lv_has ls 8 [(0, .ref (g 8)), (1, .int 0), (2, .int a0), (3, .int b0), (4, .int c0)] := hl
    refine lv_iload_n hx hb dX12_rows_0 rfl (lv_at hl 3 rfl) ?_
    refine lv_bipush (v := 7) hx hb dX12_rows_1 (by decide) ?_
    refine lv_iand hx hb dX12_rows_3 ?_
    refine lv_istore (lv' := [(5, .int (b0 &&& 7)), (0, .ref (g 8)), (1, .int 0), (2, .int a0), (3, .int b0), (4, .int c0)]) hx hb dX12_rows_4 hl (by decide) rfl (fun ls hl => ?_)
    refine lv_iload_n hx hb dX12_rows_6 rfl (lv_at hl 2 rfl) ?_
    refine lv_tableIn (off := 45) (tgt := 52) hx hb dX12_rows_7 (by decide) (by decide) (by decide) (by decide) ?_
    refine lv_aload_n hx hb dX12_rows_52 rfl (lv_at hl 1 rfl) ?_
    refine lv_iload_n hx hb dX12_rows_53 rfl (lv_at hl 3 rfl) ?_
    refine cV_i (C := RX12) (n := 1) (rest := []) hx hb hml hown hg hT (c_X12_place l dC dI g ty s.heap.size Y pa kp ks I tl ac wr tw a0 ) (cv_of hg wM_X12_83 wN_X12_place wL_X12_X12_place wK_X12_place wI_X12 (by decide +kernel) ⟨Nat.le_of_ble_eq_true rfl, Nat.le_of_ble_eq_true rfl⟩) hK hP hD hS hA (va_recv hK hP (ci := 14) (q0 := 0) rfl rfl) rfl hl.1 rfl (Nat.le_of_ble_eq_true rfl) dX12_rows_54 ⟨by show 0 + 0 ≤ 96000 - Y.2.2.2.2.2.2.2.1; omega, by show 0 + 0 ≤ 10 * (96000 - Y.2.2.2.2.2.2.2.1) + 2 * (1542237 - Y.2.2.2.2.2.2.2.2.1); omega⟩ (fun r_2 u_3 H locs q_1 hP hD hS => ?_)
    rcases q_1 with ⟨rfl, rfl, f_4⟩ | ⟨rfl, rfl, f_5⟩
    · show _
      have hP : va_P (dC, dI) vwCl (rW g ty Y pa kp ks I tl ac 2 tw) H := hP
      have hD : va_D A (rW g ty Y pa kp ks I tl ac 2 tw) := hD
      refine lv_if_eq (tgt := 72) hx hb dX12_rows_57 (by decide) (fun _ => ?_) (fun c9 => absurd (by decide) c9) 
      refine lv_aload_n hx hb dX12_rows_72 rfl (lv_at hl 1 rfl) ?_
      refine cV_l (C := RX12) (n := 0) (rest := []) hx hb hml hown hg hT (c_X12_no l dC dI g ty H.size Y pa kp ks I tl ac 2 tw  ) (cv_of hg wM_X12_107 wN_X12_no wL_X12_X12_no wK_X12_no wI_X12 (by decide +kernel) ⟨Nat.le_of_ble_eq_true rfl, Nat.le_of_ble_eq_true rfl⟩) hK hP hD hS hA (va_recv hK hP (ci := 14) (q0 := 0) rfl rfl) rfl hl.1 rfl (Nat.le_of_ble_eq_true rfl) dX12_rows_73 ⟨by show 0 + 0 + 0 ≤ 96000 - Y.2.2.2.2.2.2.2.1; omega, by show 0 + 0 + 0 ≤ 10 * (96000 - Y.2.2.2.2.2.2.2.1) + 2 * (1542237 - Y.2.2.2.2.2.2.2.2.1); omega⟩ (fun r_7 u_8 H locs q_6 hP hD hS => ?_)
      obtain ⟨rfl, rfl⟩ := q_6
      have hP : va_P (dC, dI) vwCl (rW g ty Y pa kp ks I tl ac 2 1) H := hP
      have hD : va_D A (rW g ty Y pa kp ks I tl ac 2 1) := hD
      refine W.bound (fun gb1 gb2 => ?_)
      have gb1 : H.size ≤ s.heap.size + (0 + 0 + 0) := gb1
      have gb2 : hsum H ≤ hsum s.heap + (0 + 0 + 0) := gb2
      refine W.widen (k := 96000 - Y.2.2.2.2.2.2.2.1) (n := 10 * (96000 - Y.2.2.2.2.2.2.2.1) + 2 * (1542237 - Y.2.2.2.2.2.2.2.2.1)) (by show 0 + 0 + 0 ≤ 96000 - Y.2.2.2.2.2.2.2.1; omega) (by show 0 + 0 + 0 ≤ 10 * (96000 - Y.2.2.2.2.2.2.2.1) + 2 * (1542237 - Y.2.2.2.2.2.2.2.2.1); omega) ?_
      refine gr_l (wo := fun u : rY × (Nat → Int32) × (Nat → Int32) × (Nat → Int32) × Int32 × Int32 => rW g ty u.1 u.2.1 u.2.2.1 ks I u.2.2.2.1 ac u.2.2.2.2.1 u.2.2.2.2.2) ((Y, pa, kp, tl, 2, 1)) hx hb hr hlk hS hP hD (by show H.size ≤ sz + (Y.2.2.2.2.2.2.2.1 - Y.2.2.2.2.2.2.2.1); rw [← hsz]; omega) (by show hsum H ≤ tot + (10 * (Y.2.2.2.2.2.2.2.1 - Y.2.2.2.2.2.2.2.1) + 2 * (Y.2.2.2.2.2.2.2.2.1 - Y.2.2.2.2.2.2.2.2.1)); rw [← htot]; omega) ?_ dX12_rows_76
      exact ⟨0, Y, pa, kp, tl, 2, 1, rfl, rfl, (by exact ra_f (f := 2) rel hcnt htl (by decide))⟩
    · show _
      exact absurd f_5 (by assumption)
  · show _
    have hl : lv_has ls 8 [(0, .ref (g 8)), (1, .int 0), (2, .int a0), (3, .int b0), (4, .int c0)] := hl
    refine lv_iload_n hx hb dX12_rows_0 rfl (lv_at hl 3 rfl) ?_
    refine lv_bipush (v := 7) hx hb dX12_rows_1 (by decide) ?_
    refine lv_iand hx hb dX12_rows_3 ?_
    refine lv_istore (lv' := [(5, .int (b0 &&& 7)), (0, .ref (g 8)), (1, .int 0), (2, .int a0), (3, .int b0), (4, .int c0)]) hx hb dX12_rows_4 hl (by decide) rfl (fun ls hl => ?_)
    refine lv_iload_n hx hb dX12_rows_6 rfl (lv_at hl 2 rfl) ?_
    refine lv_tableIn (off := 45) (tgt := 52) hx hb dX12_rows_7 (by decide) (by decide) (by decide) (by decide) ?_
    refine lv_aload_n hx hb dX12_rows_52 rfl (lv_at hl 1 rfl) ?_
    refine lv_iload_n hx hb dX12_rows_53 rfl (lv_at hl 3 rfl) ?_
    refine cV_i (C := RX12) (n := 1) (rest := []) hx hb hml hown hg hT (c_X12_place l dC dI g ty s.heap.size Y pa kp ks I tl ac wr tw a0 ) (cv_of hg wM_X12_83 wN_X12_place wL_X12_X12_place wK_X12_place wI_X12 (by decide +kernel) ⟨Nat.le_of_ble_eq_true rfl, Nat.le_of_ble_eq_true rfl⟩) hK hP hD hS hA (va_recv hK hP (ci := 14) (q0 := 0) rfl rfl) rfl hl.1 rfl (Nat.le_of_ble_eq_true rfl) dX12_rows_54 ⟨by show 0 + 0 ≤ 96000 - Y.2.2.2.2.2.2.2.1; omega, by show 0 + 0 ≤ 10 * (96000 - Y.2.2.2.2.2.2.2.1) + 2 * (1542237 - Y.2.2.2.2.2.2.2.2.1); omega⟩ (fun r_10 u_11 H locs q_9 hP hD hS => ?_)
    rcases q_9 with ⟨rfl, rfl, f_12⟩ | ⟨rfl, rfl, f_13⟩
    · show _
      exact absurd (by assumption) f_12
    · show _
      have hP : va_P (dC, dI) vwCl (rW g ty Y pa kp ks I tl ac wr tw) H := hP
      have hD : va_D A (rW g ty Y pa kp ks I tl ac wr tw) := hD
      refine lv_if_eq (tgt := 72) hx hb dX12_rows_57 (by decide) (fun c9 => absurd c9 (by decide)) (fun _ => ?_)
      refine lv_aload_n hx hb dX12_rows_60 rfl (lv_at hl 1 rfl) ?_
      refine lv_iload hx hb dX12_rows_61 (lv_at hl 5 rfl) ?_
      refine lv_bipush (v := 100) hx hb dX12_rows_63 (by decide) ?_
      refine lv_irem hx hb dX12_rows_65 (by decide) ?_
      refine cV_i (C := RX12) (n := 1) (rest := []) hx hb hml hown hg hT (c_X12_size l dC dI g ty H.size Y pa kp ks I tl ac wr tw (c0 - c0 / 100 * 100) ) (cv_of hg wM_X12_125 wN_X12_size wL_X12_X12_size wK_X12_size wI_X12 (by decide +kernel) ⟨Nat.le_of_ble_eq_true rfl, Nat.le_of_ble_eq_true rfl⟩) hK hP hD hS hA (va_recv hK hP (ci := 14) (q0 := 0) rfl rfl) rfl hl.1 rfl (Nat.le_of_ble_eq_true rfl) dX12_rows_66 ⟨by show 0 + 0 + 0 ≤ 96000 - Y.2.2.2.2.2.2.2.1; omega, by show 0 + 0 + 0 ≤ 10 * (96000 - Y.2.2.2.2.2.2.2.1) + 2 * (1542237 - Y.2.2.2.2.2.2.2.2.1); omega⟩ (fun r_15 u_16 H locs q_14 hP hD hS => ?_)
      rcases q_14 with ⟨rfl, rfl, f_17⟩ | ⟨rfl, rfl, f_18⟩
      · show _
        have hP : va_P (dC, dI) vwCl (rW g ty Y pa kp ks I tl ac 4 tw) H := hP
        have hD : va_D A (rW g ty Y pa kp ks I tl ac 4 tw) := hD
        refine lv_if_ne (tgt := 77) hx hb dX12_rows_69 (by decide) (fun c9 => absurd (by decide) c9) (fun _ => ?_)
        refine lv_aload_n hx hb dX12_rows_72 rfl (lv_at hl 1 rfl) ?_
        refine cV_l (C := RX12) (n := 0) (rest := []) hx hb hml hown hg hT (c_X12_no l dC dI g ty H.size Y pa kp ks I tl ac 4 tw  ) (cv_of hg wM_X12_107 wN_X12_no wL_X12_X12_no wK_X12_no wI_X12 (by decide +kernel) ⟨Nat.le_of_ble_eq_true rfl, Nat.le_of_ble_eq_true rfl⟩) hK hP hD hS hA (va_recv hK hP (ci := 14) (q0 := 0) rfl rfl) rfl hl.1 rfl (Nat.le_of_ble_eq_true rfl) dX12_rows_73 ⟨by show 0 + 0 + 0 + 0 ≤ 96000 - Y.2.2.2.2.2.2.2.1; omega, by show 0 + 0 + 0 + 0 ≤ 10 * (96000 - Y.2.2.2.2.2.2.2.1) + 2 * (1542237 - Y.2.2.2.2.2.2.2.2.1); omega⟩ (fun r_20 u_21 H locs q_19 hP hD hS => ?_)
        obtain ⟨rfl, rfl⟩ := q_19
        have hP : va_P (dC, dI) vwCl (rW g ty Y pa kp ks I tl ac 4 1) H := hP
        have hD : va_D A (rW g ty Y pa kp ks I tl ac 4 1) := hD
        refine W.bound (fun gb1 gb2 => ?_)
        have gb1 : H.size ≤ s.heap.size + (0 + 0 + 0 + 0) := gb1
        have gb2 : hsum H ≤ hsum s.heap + (0 + 0 + 0 + 0) := gb2
        refine W.widen (k := 96000 - Y.2.2.2.2.2.2.2.1) (n := 10 * (96000 - Y.2.2.2.2.2.2.2.1) + 2 * (1542237 - Y.2.2.2.2.2.2.2.2.1)) (by show 0 + 0 + 0 + 0 ≤ 96000 - Y.2.2.2.2.2.2.2.1; omega) (by show 0 + 0 + 0 + 0 ≤ 10 * (96000 - Y.2.2.2.2.2.2.2.1) + 2 * (1542237 - Y.2.2.2.2.2.2.2.2.1); omega) ?_
        refine gr_l (wo := fun u : rY × (Nat → Int32) × (Nat → Int32) × (Nat → Int32) × Int32 × Int32 => rW g ty u.1 u.2.1 u.2.2.1 ks I u.2.2.2.1 ac u.2.2.2.2.1 u.2.2.2.2.2) ((Y, pa, kp, tl, 4, 1)) hx hb hr hlk hS hP hD (by show H.size ≤ sz + (Y.2.2.2.2.2.2.2.1 - Y.2.2.2.2.2.2.2.1); rw [← hsz]; omega) (by show hsum H ≤ tot + (10 * (Y.2.2.2.2.2.2.2.1 - Y.2.2.2.2.2.2.2.1) + 2 * (Y.2.2.2.2.2.2.2.2.1 - Y.2.2.2.2.2.2.2.2.1)); rw [← htot]; omega) ?_ dX12_rows_76
        exact ⟨0, Y, pa, kp, tl, 4, 1, rfl, rfl, (by exact ra_f (f := 4) rel hcnt htl (by decide))⟩
      · show _
        exact absurd f_18 (by assumption)
  · show _
    have hl : lv_has ls 8 [(0, .ref (g 8)), (1, .int 0), (2, .int a0), (3, .int b0), (4, .int c0)] := hl
    refine lv_iload_n hx hb dX12_rows_0 rfl (lv_at hl 3 rfl) ?_
    refine lv_bipush (v := 7) hx hb dX12_rows_1 (by decide) ?_
    refine lv_iand hx hb dX12_rows_3 ?_
    refine lv_istore (lv' := [(5, .int (b0 &&& 7)), (0, .ref (g 8)), (1, .int 0), (2, .int a0), (3, .int b0), (4, .int c0)]) hx hb dX12_rows_4 hl (by decide) rfl (fun ls hl => ?_)
    refine lv_iload_n hx hb dX12_rows_6 rfl (lv_at hl 2 rfl) ?_
    refine lv_tableIn (off := 45) (tgt := 52) hx hb dX12_rows_7 (by decide) (by decide) (by decide) (by decide) ?_
    refine lv_aload_n hx hb dX12_rows_52 rfl (lv_at hl 1 rfl) ?_
    refine lv_iload_n hx hb dX12_rows_53 rfl (lv_at hl 3 rfl) ?_
    refine cV_i (C := RX12) (n := 1) (rest := []) hx hb hml hown hg hT (c_X12_place l dC dI g ty s.heap.size Y pa kp ks I tl ac wr tw a0 ) (cv_of hg wM_X12_83 wN_X12_place wL_X12_X12_place wK_X12_place wI_X12 (by decide +kernel) ⟨Nat.le_of_ble_eq_true rfl, Nat.le_of_ble_eq_true rfl⟩) hK hP hD hS hA (va_recv hK hP (ci := 14) (q0 := 0) rfl rfl) rfl hl.1 rfl (Nat.le_of_ble_eq_true rfl) dX12_rows_54 ⟨by show 0 + 0 ≤ 96000 - Y.2.2.2.2.2.2.2.1; omega, by show 0 + 0 ≤ 10 * (96000 - Y.2.2.2.2.2.2.2.1) + 2 * (1542237 - Y.2.2.2.2.2.2.2.2.1); omega⟩ (fun r_23 u_24 H locs q_22 hP hD hS => ?_)
    rcases q_22 with ⟨rfl, rfl, f_25⟩ | ⟨rfl, rfl, f_26⟩
    · show _
      exact absurd (by assumption) f_25
    · show _
      have hP : va_P (dC, dI) vwCl (rW g ty Y pa kp ks I tl ac wr tw) H := hP
      have hD : va_D A (rW g ty Y pa kp ks I tl ac wr tw) := hD
      refine lv_if_eq (tgt := 72) hx hb dX12_rows_57 (by decide) (fun c9 => absurd c9 (by decide)) (fun _ => ?_)
      refine lv_aload_n hx hb dX12_rows_60 rfl (lv_at hl 1 rfl) ?_
      refine lv_iload hx hb dX12_rows_61 (lv_at hl 5 rfl) ?_
      refine lv_bipush (v := 100) hx hb dX12_rows_63 (by decide) ?_
      refine lv_irem hx hb dX12_rows_65 (by decide) ?_
      refine cV_i (C := RX12) (n := 1) (rest := []) hx hb hml hown hg hT (c_X12_size l dC dI g ty H.size Y pa kp ks I tl ac wr tw (c0 - c0 / 100 * 100) ) (cv_of hg wM_X12_125 wN_X12_size wL_X12_X12_size wK_X12_size wI_X12 (by decide +kernel) ⟨Nat.le_of_ble_eq_true rfl, Nat.le_of_ble_eq_true rfl⟩) hK hP hD hS hA (va_recv hK hP (ci := 14) (q0 := 0) rfl rfl) rfl hl.1 rfl (Nat.le_of_ble_eq_true rfl) dX12_rows_66 ⟨by show 0 + 0 + 0 ≤ 96000 - Y.2.2.2.2.2.2.2.1; omega, by show 0 + 0 + 0 ≤ 10 * (96000 - Y.2.2.2.2.2.2.2.1) + 2 * (1542237 - Y.2.2.2.2.2.2.2.2.1); omega⟩ (fun r_28 u_29 H locs q_27 hP hD hS => ?_)
      rcases q_27 with ⟨rfl, rfl, f_30⟩ | ⟨rfl, rfl, f_31⟩
      · show _
        exact absurd (by assumption) f_30
      · show _
        have hP : va_P (dC, dI) vwCl (rW g ty Y pa kp ks I tl ac wr tw) H := hP
        have hD : va_D A (rW g ty Y pa kp ks I tl ac wr tw) := hD
        refine lv_if_ne (tgt := 77) hx hb dX12_rows_69 (by decide) (fun _ => ?_) (fun c9 => absurd c9 (by decide)) 
        refine lv_aload_n hx hb dX12_rows_77 rfl (lv_at hl 1 rfl) ?_
        refine va_get (D := (dC, dI)) (ci := 14) (v := .ref (g 9)) (C := RX12) (T := TX12) (N := 21) hx hb hg inG12 hown hK hP 0 rfl rfl 8 (by decide) (hg _ wF_X12_34) (fun _ h9 => h9) rfl dX12_rows_78 ?_
        refine lv_iload_n hx hb dX12_rows_81 rfl (lv_at hl 3 rfl) ?_
        refine lv_aload_n hx hb dX12_rows_82 rfl (lv_at hl 1 rfl) ?_
        refine lv_iload hx hb dX12_rows_83 (lv_at hl 0 rfl) ?_
        refine lv_iload hx hb dX12_rows_85 (lv_at hl 5 rfl) ?_
        refine lv_bipush (v := 100) hx hb dX12_rows_87 (by decide) ?_
        refine lv_irem hx hb dX12_rows_89 (by decide) ?_
        refine gV_i (C := RX12) (n := 2) (rest := [.int a0, .ref (g 9)]) hx hb hml hown hg hT (c_X12_make l dC dI g ty H.size (hsum H) Y pa kp ks I tl ac wr tw ρ pl P none (b0 &&& 7) (c0 - c0 / 100 * 100) (by exact rel) (by exact wf) (by exact Or.inl pre2) (by exact ⟨by assumption, by have := rem_lt100 (by assumption); omega⟩) (by exact cnt_ok hcnt pre5 pre8)) (cv_of hg wM_X12_128 wN_X12_make wL_X12_X12_make wK_X12_make wI_X12 (by decide +kernel) ⟨Nat.le_of_ble_eq_true rfl, Nat.le_of_ble_eq_true rfl⟩) hK hP hD hS hA (va_recv hK hP (ci := 14) (q0 := 0) rfl rfl) rfl hl.1 rfl (Nat.le_of_ble_eq_true rfl) dX12_rows_90 ⟨by show 0 + 0 + 0 + (96000 - Y.2.2.2.2.2.2.2.1) ≤ 96000 - Y.2.2.2.2.2.2.2.1; omega, by show 0 + 0 + 0 + (10 * (96000 - Y.2.2.2.2.2.2.2.1) + 2 * (1542237 - Y.2.2.2.2.2.2.2.2.1)) ≤ 10 * (96000 - Y.2.2.2.2.2.2.2.1) + 2 * (1542237 - Y.2.2.2.2.2.2.2.2.1); omega⟩ (fun r_33 u_34 H locs q_32 hP hD hS => ?_)
        obtain ⟨r'_35, Y'_36, pa'_37, kp'_38, rfl, rfl, f_39⟩ := q_32
        have hP : va_P (dC, dI) vwCl (rW g ty Y'_36 pa'_37 kp'_38 ks I tl ac wr tw) H := hP
        have hD : va_D A (rW g ty Y'_36 pa'_37 kp'_38 ks I tl ac wr tw) := hD
        obtain ⟨ρ9, rel9, hk9, hth9, hn9, hle9, hgr9⟩ := f_39
        have hgr8 := hgr9.1
        have hgr7 := hgr9.2
        have hlc9 := rl_L rel9.1
        have hin9 : vp_in r'_35 Y'_36.2.2.2.2.2.2.2.1 := i32_in (i32_pos rel9.2.1.1).1 (by have := rel9.1.1.2; have := hth9.2; omega)
        refine va_iast hx hb hK hP hD hS 7 0 rfl rfl (by assumption) dX12_rows_93 (fun H locs hP hD hS => ?_)
        have hP : va_P (dC, dI) vwCl (rW g ty Y'_36 (upd pa'_37 a0.toNatClampNeg r'_35) kp'_38 ks I tl ac wr tw) H := hP
        have hD : va_D A (rW g ty Y'_36 (upd pa'_37 a0.toNatClampNeg r'_35) kp'_38 ks I tl ac wr tw) := hD
        refine lv_aload_n hx hb dX12_rows_94 rfl (lv_at hl 1 rfl) ?_
        refine va_get (D := (dC, dI)) (ci := 14) (v := .ref (g 14)) (C := RX12) (T := TX12) (N := 21) hx hb hg inG12 hown hK hP 0 rfl rfl 17 (by decide) (hg _ wF_X12_49) (fun _ h9 => h9) rfl dX12_rows_95 ?_
        refine lv_iconst (v := 5) hx hb dX12_rows_98 (by decide) ?_
        refine lv_dup2_11 hx hb dX12_rows_99 rfl rfl ?_
        refine va_iald hx hb hK hP 12 0 rfl rfl (by exact i32_in (by decide) (by decide)) dX12_rows_100 ?_
        refine lv_iconst (v := 1) hx hb dX12_rows_101 (by decide) ?_
        refine lv_iadd hx hb dX12_rows_102 ?_
        refine va_iast hx hb hK hP hD hS 12 0 rfl rfl (by exact i32_in (by decide) (by decide)) dX12_rows_103 (fun H locs hP hD hS => ?_)
        have hP : va_P (dC, dI) vwCl (rW g ty Y'_36 (upd pa'_37 a0.toNatClampNeg r'_35) kp'_38 ks I (upd tl 5 ((tl 5) + 1)) ac wr tw) H := hP
        have hD : va_D A (rW g ty Y'_36 (upd pa'_37 a0.toNatClampNeg r'_35) kp'_38 ks I (upd tl 5 ((tl 5) + 1)) ac wr tw) := hD
        refine lv_aload_n hx hb dX12_rows_104 rfl (lv_at hl 1 rfl) ?_
        refine va_get (D := (dC, dI)) (ci := 14) (v := .ref (Y'_36.2.2.2.2.2.2.1 2)) (C := RX12) (T := TX12) (N := 21) hx hb hg inG12 hown hK hP 0 rfl rfl 2 (by decide) (hg _ wF_X12_16) (fun _ h9 => h9) rfl dX12_rows_105 ?_
        refine lv_aload_n hx hb dX12_rows_108 rfl (lv_at hl 1 rfl) ?_
        refine va_get (D := (dC, dI)) (ci := 14) (v := .ref (g 9)) (C := RX12) (T := TX12) (N := 21) hx hb hg inG12 hown hK hP 0 rfl rfl 8 (by decide) (hg _ wF_X12_34) (fun _ h9 => h9) rfl dX12_rows_109 ?_
        refine lv_iload_n hx hb dX12_rows_112 rfl (lv_at hl 3 rfl) ?_
        refine va_iald hx hb hK hP 7 0 rfl rfl (by assumption) dX12_rows_113 ?_
        refine lv_topi (fun x9 ex90 => ?_)
        have ex9 : x9 = ((upd pa'_37 a0.toNatClampNeg r'_35) a0.toNatClampNeg) := ex90
        obtain rfl : r'_35 = x9 := by rw [ex9, upd_at', if_pos rfl]
        refine va_iald hx hb hK hP 3 0 rfl rfl (by exact hin9) dX12_rows_114 ?_
        refine lv_i2l (v := ((Y'_36.2.2.1 r'_35.toNatClampNeg).toInt64)) hx hb dX12_rows_115 rfl ?_
        refine W.bound (fun gb1 gb2 => ?_)
        have gb1 : H.size ≤ s.heap.size + (0 + 0 + 0 + (Y'_36.2.2.2.2.2.2.2.1 - Y.2.2.2.2.2.2.2.1)) := gb1
        have gb2 : hsum H ≤ hsum s.heap + (0 + 0 + 0 + (10 * (Y'_36.2.2.2.2.2.2.2.1 - Y.2.2.2.2.2.2.2.1) + 2 * (Y'_36.2.2.2.2.2.2.2.2.1 - Y.2.2.2.2.2.2.2.2.1))) := gb2
        refine W.widen (k := 96000 - Y.2.2.2.2.2.2.2.1) (n := 10 * (96000 - Y.2.2.2.2.2.2.2.1) + 2 * (1542237 - Y.2.2.2.2.2.2.2.2.1)) (by show 0 + 0 + 0 + (Y'_36.2.2.2.2.2.2.2.1 - Y.2.2.2.2.2.2.2.1) ≤ 96000 - Y.2.2.2.2.2.2.2.1; omega) (by show 0 + 0 + 0 + (10 * (Y'_36.2.2.2.2.2.2.2.1 - Y.2.2.2.2.2.2.2.1) + 2 * (Y'_36.2.2.2.2.2.2.2.2.1 - Y.2.2.2.2.2.2.2.2.1)) ≤ 10 * (96000 - Y.2.2.2.2.2.2.2.1) + 2 * (1542237 - Y.2.2.2.2.2.2.2.2.1); omega) ?_
        refine gr_l (wo := fun u : rY × (Nat → Int32) × (Nat → Int32) × (Nat → Int32) × Int32 × Int32 => rW g ty u.1 u.2.1 u.2.2.1 ks I u.2.2.2.1 ac u.2.2.2.2.1 u.2.2.2.2.2) ((Y'_36, (upd pa'_37 a0.toNatClampNeg r'_35), kp'_38, (upd tl 5 ((tl 5) + 1)), wr, tw)) hx hb hr hlk hS hP hD (by show H.size ≤ sz + (Y'_36.2.2.2.2.2.2.2.1 - Y.2.2.2.2.2.2.2.1); rw [← hsz]; omega) (by show hsum H ≤ tot + (10 * (Y'_36.2.2.2.2.2.2.2.1 - Y.2.2.2.2.2.2.2.1) + 2 * (Y'_36.2.2.2.2.2.2.2.2.1 - Y.2.2.2.2.2.2.2.2.1)); rw [← htot]; omega) ?_ dX12_rows_116
        exact ⟨((Y'_36.2.2.1 r'_35.toNatClampNeg).toInt64), Y'_36, (upd pa'_37 a0.toNatClampNeg r'_35), kp'_38, (upd tl 5 ((tl 5) + 1)), wr, tw, rfl, rfl, (by subst pre6; exact ra_mk wf hcnt pre5 pre8 htl rel9 hth9 hle9 (by have := rem_lt100 (by assumption); omega) hgr9 (by assumption) g5 (agr_two g5 g6 g7) (nw_row g7 hn9.1 (congrArg Int32.toNatClampNeg hn9.2.1) hn9.2.2) (congrArg Int32.toInt64 hn9.2.1))⟩
set_option maxHeartbeats 800000 in
set_option maxRecDepth 100000 in
theorem c_X12_boxes_9 (l : Launch) (dC : Nat → ClassId) (dI : Nat → Nat → Nat) (g : Nat → Nat) (ty : Nat → ClassId) (sz tot : Nat) (Y : rY) (pa : Nat → Int32) (kp : Nat → Int32) (ks : Int32) (I : rI) (tl : Nat → Int32) (ac : Int64) (wr : Int32) (tw : Int32) (ρ : Nat → Nat) (pl : Nat → Option Nat) (P : cQ) (md : Int32) (Z : cZ) (rz9 : Int64) (u9 : (Nat → Option Nat) × Int32 × Int32 × cQ) (a0 : Int32) (b0 : Int32) (c0 : Int32) (pre0 : rR Y.2.2.2.2.2.2.2.2.2.1 Y pa ρ pl P) (pre1 : cWF pl P) (pre2 : ks = 0) (pre3 : rCnt Y md) (pre4 : tl 5 = md) (pre5 : 0 ≤ md ∧ md ≤ 6000) (pre6 : tw = 0) (pre7 : q_X11_makeCase a0 b0 c0 pl ac (-1) md Z P rz9 u9) (pre8 : md < 6000) : Met l yX12_boxes (Cond.code yX12_boxes cX12_boxes 7 (some .long) :: gT) ({ frames := 3, cells := 96000 - Y.2.2.2.2.2.2.2.1, slots := 10 * (96000 - Y.2.2.2.2.2.2.2.1) + 2 * (1542237 - Y.2.2.2.2.2.2.2.2.1), locals := 82 }) (cPg (dC, dI) (rTy ty) (rW g ty Y pa kp ks I tl ac wr tw) sz tot [.ref (g 8), .int 9, .int a0, .int b0, .int c0]) (va_Ql (fun (rz : Int64) (u : rY × (Nat → Int32) × (Nat → Int32) × (Nat → Int32) × Int32 × Int32) => ∃ (r' : Int64) (Y' : rY) (pa' kp' tl' : Nat → Int32) (wr' tw' : Int32), r' = rz ∧ (Y', pa', kp', tl', wr', tw') = u ∧ rAns u9.2.1 rz9 u9.1 u9.2.2.2 u9.2.2.1 tl Y r' Y' pa' tl' wr' tw') (cBg (dC, dI) (fun u : rY × (Nat → Int32) × (Nat → Int32) × (Nat → Int32) × Int32 × Int32 => rW g ty u.1 u.2.1 u.2.2.1 ks I u.2.2.2.1 ac u.2.2.2.2.1 u.2.2.2.2.2) (va_A (rW g ty Y pa kp ks I tl ac wr tw) sz) sz tot (fun u : rY × (Nat → Int32) × (Nat → Int32) × (Nat → Int32) × Int32 × Int32 => u.1.2.2.2.2.2.2.2.1 - Y.2.2.2.2.2.2.2.1) (fun u : rY × (Nat → Int32) × (Nat → Int32) × (Nat → Int32) × Int32 × Int32 => 10 * (u.1.2.2.2.2.2.2.2.1 - Y.2.2.2.2.2.2.2.1) + 2 * (u.1.2.2.2.2.2.2.2.2.1 - Y.2.2.2.2.2.2.2.2.1))) (va_A (rW g ty Y pa kp ks I tl ac wr tw) sz)) (96000 - Y.2.2.2.2.2.2.2.1) (10 * (96000 - Y.2.2.2.2.2.2.2.1) + 2 * (1542237 - Y.2.2.2.2.2.2.2.2.1)) (va_A (rW g ty Y pa kp ks I tl ac wr tw) sz) := by
  refine cg_of (Qa := fun A => va_Ql (fun (rz : Int64) (u : rY × (Nat → Int32) × (Nat → Int32) × (Nat → Int32) × Int32 × Int32) => ∃ (r' : Int64) (Y' : rY) (pa' kp' tl' : Nat → Int32) (wr' tw' : Int32), r' = rz ∧ (Y', pa', kp', tl', wr', tw') = u ∧ rAns u9.2.1 rz9 u9.1 u9.2.2.2 u9.2.2.1 tl Y r' Y' pa' tl' wr' tw') (cBg (dC, dI) (fun u : rY × (Nat → Int32) × (Nat → Int32) × (Nat → Int32) × Int32 × Int32 => rW g ty u.1 u.2.1 u.2.2.1 ks I u.2.2.2.1 ac u.2.2.2.2.1 u.2.2.2.2.2) A sz tot (fun u : rY × (Nat → Int32) × (Nat → Int32) × (Nat → Int32) × Int32 × Int32 => u.1.2.2.2.2.2.2.2.1 - Y.2.2.2.2.2.2.2.1) (fun u : rY × (Nat → Int32) × (Nat → Int32) × (Nat → Int32) × Int32 × Int32 => 10 * (u.1.2.2.2.2.2.2.2.1 - Y.2.2.2.2.2.2.2.1) + 2 * (u.1.2.2.2.2.2.2.2.2.1 - Y.2.2.2.2.2.2.2.2.1))) A) (by decide) (Nat.le_of_ble_eq_true rfl) ?_
  intro p e s m below meth c A hx hb hr hml hown hg hlk hmn hP hK hD hT hS hA hsz htot ls hl
  have hown : s.vm.findClass RX12 = some m.cls := hown
  have rel := pre0
  have wf := pre1
  have hcnt := pre3
  have htl := pre4
  rcases pre7 with ⟨rfl, rfl, g2⟩ | ⟨rfl, rfl, g2, g3⟩ | ⟨rfl, rfl, g2, g3, g4⟩ | ⟨q, y, rfl, rfl, g2, g3, g4, g5, g6, g7, g8⟩ | ⟨q, y, rfl, rfl, g2, g3, g4, g5, g6, g7, g8⟩ | ⟨q, y, rfl, rfl, g2, g3, g4, g5, g6, g7, g8, g9⟩
  · show _
    exact absurd pre8 g2
  · show _
    have hl : lv_has ls 7 [(0, .ref (g 8)), (1, .int 9), (2, .int a0), (3, .int b0), (4, .int c0)] := hl
    refine lv_iload_n hx hb dX12_boxes_0 rfl (lv_at hl 1 rfl) ?_
    refine lv_tableIn (off := 55) (tgt := 56) hx hb dX12_boxes_1 (by decide) (by decide) (by decide) (by decide) ?_
    refine lv_aload_n hx hb dX12_boxes_56 rfl (lv_at hl 0 rfl) ?_
    refine lv_iload_n hx hb dX12_boxes_57 rfl (lv_at hl 2 rfl) ?_
    refine cV_i (C := RX12) (n := 1) (rest := []) hx hb hml hown hg hT (c_X12_place l dC dI g ty s.heap.size Y pa kp ks I tl ac wr tw a0 ) (cv_of hg wM_X12_83 wN_X12_place wL_X12_X12_place wK_X12_place wI_X12 (by decide +kernel) ⟨Nat.le_of_ble_eq_true rfl, Nat.le_of_ble_eq_true rfl⟩) hK hP hD hS hA (va_recv hK hP (ci := 14) (q0 := 0) rfl rfl) rfl hl.1 rfl (Nat.le_of_ble_eq_true rfl) dX12_boxes_58 ⟨by show 0 + 0 ≤ 96000 - Y.2.2.2.2.2.2.2.1; omega, by show 0 + 0 ≤ 10 * (96000 - Y.2.2.2.2.2.2.2.1) + 2 * (1542237 - Y.2.2.2.2.2.2.2.2.1); omega⟩ (fun r_2 u_3 H locs q_1 hP hD hS => ?_)
    rcases q_1 with ⟨rfl, rfl, f_4⟩ | ⟨rfl, rfl, f_5⟩
    · show _
      have hP : va_P (dC, dI) vwCl (rW g ty Y pa kp ks I tl ac 2 tw) H := hP
      have hD : va_D A (rW g ty Y pa kp ks I tl ac 2 tw) := hD
      refine lv_if_eq (tgt := 76) hx hb dX12_boxes_61 (by decide) (fun _ => ?_) (fun c9 => absurd (by decide) c9) 
      refine lv_aload_n hx hb dX12_boxes_76 rfl (lv_at hl 0 rfl) ?_
      refine cV_l (C := RX12) (n := 0) (rest := []) hx hb hml hown hg hT (c_X12_no l dC dI g ty H.size Y pa kp ks I tl ac 2 tw  ) (cv_of hg wM_X12_107 wN_X12_no wL_X12_X12_no wK_X12_no wI_X12 (by decide +kernel) ⟨Nat.le_of_ble_eq_true rfl, Nat.le_of_ble_eq_true rfl⟩) hK hP hD hS hA (va_recv hK hP (ci := 14) (q0 := 0) rfl rfl) rfl hl.1 rfl (Nat.le_of_ble_eq_true rfl) dX12_boxes_77 ⟨by show 0 + 0 + 0 ≤ 96000 - Y.2.2.2.2.2.2.2.1; omega, by show 0 + 0 + 0 ≤ 10 * (96000 - Y.2.2.2.2.2.2.2.1) + 2 * (1542237 - Y.2.2.2.2.2.2.2.2.1); omega⟩ (fun r_7 u_8 H locs q_6 hP hD hS => ?_)
      obtain ⟨rfl, rfl⟩ := q_6
      have hP : va_P (dC, dI) vwCl (rW g ty Y pa kp ks I tl ac 2 1) H := hP
      have hD : va_D A (rW g ty Y pa kp ks I tl ac 2 1) := hD
      refine W.bound (fun gb1 gb2 => ?_)
      have gb1 : H.size ≤ s.heap.size + (0 + 0 + 0) := gb1
      have gb2 : hsum H ≤ hsum s.heap + (0 + 0 + 0) := gb2
      refine W.widen (k := 96000 - Y.2.2.2.2.2.2.2.1) (n := 10 * (96000 - Y.2.2.2.2.2.2.2.1) + 2 * (1542237 - Y.2.2.2.2.2.2.2.2.1)) (by show 0 + 0 + 0 ≤ 96000 - Y.2.2.2.2.2.2.2.1; omega) (by show 0 + 0 + 0 ≤ 10 * (96000 - Y.2.2.2.2.2.2.2.1) + 2 * (1542237 - Y.2.2.2.2.2.2.2.2.1); omega) ?_
      refine gr_l (wo := fun u : rY × (Nat → Int32) × (Nat → Int32) × (Nat → Int32) × Int32 × Int32 => rW g ty u.1 u.2.1 u.2.2.1 ks I u.2.2.2.1 ac u.2.2.2.2.1 u.2.2.2.2.2) ((Y, pa, kp, tl, 2, 1)) hx hb hr hlk hS hP hD (by show H.size ≤ sz + (Y.2.2.2.2.2.2.2.1 - Y.2.2.2.2.2.2.2.1); rw [← hsz]; omega) (by show hsum H ≤ tot + (10 * (Y.2.2.2.2.2.2.2.1 - Y.2.2.2.2.2.2.2.1) + 2 * (Y.2.2.2.2.2.2.2.2.1 - Y.2.2.2.2.2.2.2.2.1)); rw [← htot]; omega) ?_ dX12_boxes_80
      exact ⟨0, Y, pa, kp, tl, 2, 1, rfl, rfl, (by exact ra_f (f := 2) rel hcnt htl (by decide))⟩
    · show _
      exact absurd f_5 (by assumption)
  · show _
    have hl : lv_has ls 7 [(0, .ref (g 8)), (1, .int 9), (2, .int a0), (3, .int b0), (4, .int c0)] := hl
    refine lv_iload_n hx hb dX12_boxes_0 rfl (lv_at hl 1 rfl) ?_
    refine lv_tableIn (off := 55) (tgt := 56) hx hb dX12_boxes_1 (by decide) (by decide) (by decide) (by decide) ?_
    refine lv_aload_n hx hb dX12_boxes_56 rfl (lv_at hl 0 rfl) ?_
    refine lv_iload_n hx hb dX12_boxes_57 rfl (lv_at hl 2 rfl) ?_
    refine cV_i (C := RX12) (n := 1) (rest := []) hx hb hml hown hg hT (c_X12_place l dC dI g ty s.heap.size Y pa kp ks I tl ac wr tw a0 ) (cv_of hg wM_X12_83 wN_X12_place wL_X12_X12_place wK_X12_place wI_X12 (by decide +kernel) ⟨Nat.le_of_ble_eq_true rfl, Nat.le_of_ble_eq_true rfl⟩) hK hP hD hS hA (va_recv hK hP (ci := 14) (q0 := 0) rfl rfl) rfl hl.1 rfl (Nat.le_of_ble_eq_true rfl) dX12_boxes_58 ⟨by show 0 + 0 ≤ 96000 - Y.2.2.2.2.2.2.2.1; omega, by show 0 + 0 ≤ 10 * (96000 - Y.2.2.2.2.2.2.2.1) + 2 * (1542237 - Y.2.2.2.2.2.2.2.2.1); omega⟩ (fun r_10 u_11 H locs q_9 hP hD hS => ?_)
    rcases q_9 with ⟨rfl, rfl, f_12⟩ | ⟨rfl, rfl, f_13⟩
    · show _
      exact absurd (by assumption) f_12
    · show _
      have hP : va_P (dC, dI) vwCl (rW g ty Y pa kp ks I tl ac wr tw) H := hP
      have hD : va_D A (rW g ty Y pa kp ks I tl ac wr tw) := hD
      refine lv_if_eq (tgt := 76) hx hb dX12_boxes_61 (by decide) (fun c9 => absurd c9 (by decide)) (fun _ => ?_)
      refine lv_aload_n hx hb dX12_boxes_64 rfl (lv_at hl 0 rfl) ?_
      refine lv_iload hx hb dX12_boxes_65 (lv_at hl 4 rfl) ?_
      refine lv_bipush (v := 40) hx hb dX12_boxes_67 (by decide) ?_
      refine lv_irem hx hb dX12_boxes_69 (by decide) ?_
      refine cV_i (C := RX12) (n := 1) (rest := []) hx hb hml hown hg hT (c_X12_size l dC dI g ty H.size Y pa kp ks I tl ac wr tw (c0 - c0 / 40 * 40) ) (cv_of hg wM_X12_125 wN_X12_size wL_X12_X12_size wK_X12_size wI_X12 (by decide +kernel) ⟨Nat.le_of_ble_eq_true rfl, Nat.le_of_ble_eq_true rfl⟩) hK hP hD hS hA (va_recv hK hP (ci := 14) (q0 := 0) rfl rfl) rfl hl.1 rfl (Nat.le_of_ble_eq_true rfl) dX12_boxes_70 ⟨by show 0 + 0 + 0 ≤ 96000 - Y.2.2.2.2.2.2.2.1; omega, by show 0 + 0 + 0 ≤ 10 * (96000 - Y.2.2.2.2.2.2.2.1) + 2 * (1542237 - Y.2.2.2.2.2.2.2.2.1); omega⟩ (fun r_15 u_16 H locs q_14 hP hD hS => ?_)
      rcases q_14 with ⟨rfl, rfl, f_17⟩ | ⟨rfl, rfl, f_18⟩
      · show _
        have hP : va_P (dC, dI) vwCl (rW g ty Y pa kp ks I tl ac 4 tw) H := hP
        have hD : va_D A (rW g ty Y pa kp ks I tl ac 4 tw) := hD
        refine lv_if_ne (tgt := 81) hx hb dX12_boxes_73 (by decide) (fun c9 => absurd (by decide) c9) (fun _ => ?_)
        refine lv_aload_n hx hb dX12_boxes_76 rfl (lv_at hl 0 rfl) ?_
        refine cV_l (C := RX12) (n := 0) (rest := []) hx hb hml hown hg hT (c_X12_no l dC dI g ty H.size Y pa kp ks I tl ac 4 tw  ) (cv_of hg wM_X12_107 wN_X12_no wL_X12_X12_no wK_X12_no wI_X12 (by decide +kernel) ⟨Nat.le_of_ble_eq_true rfl, Nat.le_of_ble_eq_true rfl⟩) hK hP hD hS hA (va_recv hK hP (ci := 14) (q0 := 0) rfl rfl) rfl hl.1 rfl (Nat.le_of_ble_eq_true rfl) dX12_boxes_77 ⟨by show 0 + 0 + 0 + 0 ≤ 96000 - Y.2.2.2.2.2.2.2.1; omega, by show 0 + 0 + 0 + 0 ≤ 10 * (96000 - Y.2.2.2.2.2.2.2.1) + 2 * (1542237 - Y.2.2.2.2.2.2.2.2.1); omega⟩ (fun r_20 u_21 H locs q_19 hP hD hS => ?_)
        obtain ⟨rfl, rfl⟩ := q_19
        have hP : va_P (dC, dI) vwCl (rW g ty Y pa kp ks I tl ac 4 1) H := hP
        have hD : va_D A (rW g ty Y pa kp ks I tl ac 4 1) := hD
        refine W.bound (fun gb1 gb2 => ?_)
        have gb1 : H.size ≤ s.heap.size + (0 + 0 + 0 + 0) := gb1
        have gb2 : hsum H ≤ hsum s.heap + (0 + 0 + 0 + 0) := gb2
        refine W.widen (k := 96000 - Y.2.2.2.2.2.2.2.1) (n := 10 * (96000 - Y.2.2.2.2.2.2.2.1) + 2 * (1542237 - Y.2.2.2.2.2.2.2.2.1)) (by show 0 + 0 + 0 + 0 ≤ 96000 - Y.2.2.2.2.2.2.2.1; omega) (by show 0 + 0 + 0 + 0 ≤ 10 * (96000 - Y.2.2.2.2.2.2.2.1) + 2 * (1542237 - Y.2.2.2.2.2.2.2.2.1); omega) ?_
        refine gr_l (wo := fun u : rY × (Nat → Int32) × (Nat → Int32) × (Nat → Int32) × Int32 × Int32 => rW g ty u.1 u.2.1 u.2.2.1 ks I u.2.2.2.1 ac u.2.2.2.2.1 u.2.2.2.2.2) ((Y, pa, kp, tl, 4, 1)) hx hb hr hlk hS hP hD (by show H.size ≤ sz + (Y.2.2.2.2.2.2.2.1 - Y.2.2.2.2.2.2.2.1); rw [← hsz]; omega) (by show hsum H ≤ tot + (10 * (Y.2.2.2.2.2.2.2.1 - Y.2.2.2.2.2.2.2.1) + 2 * (Y.2.2.2.2.2.2.2.2.1 - Y.2.2.2.2.2.2.2.2.1)); rw [← htot]; omega) ?_ dX12_boxes_80
        exact ⟨0, Y, pa, kp, tl, 4, 1, rfl, rfl, (by exact ra_f (f := 4) rel hcnt htl (by decide))⟩
      · show _
        exact absurd f_18 (by assumption)
  · show _
    have hl : lv_has ls 7 [(0, .ref (g 8)), (1, .int 9), (2, .int a0), (3, .int b0), (4, .int c0)] := hl
    refine lv_iload_n hx hb dX12_boxes_0 rfl (lv_at hl 1 rfl) ?_
    refine lv_tableIn (off := 55) (tgt := 56) hx hb dX12_boxes_1 (by decide) (by decide) (by decide) (by decide) ?_
    refine lv_aload_n hx hb dX12_boxes_56 rfl (lv_at hl 0 rfl) ?_
    refine lv_iload_n hx hb dX12_boxes_57 rfl (lv_at hl 2 rfl) ?_
    refine cV_i (C := RX12) (n := 1) (rest := []) hx hb hml hown hg hT (c_X12_place l dC dI g ty s.heap.size Y pa kp ks I tl ac wr tw a0 ) (cv_of hg wM_X12_83 wN_X12_place wL_X12_X12_place wK_X12_place wI_X12 (by decide +kernel) ⟨Nat.le_of_ble_eq_true rfl, Nat.le_of_ble_eq_true rfl⟩) hK hP hD hS hA (va_recv hK hP (ci := 14) (q0 := 0) rfl rfl) rfl hl.1 rfl (Nat.le_of_ble_eq_true rfl) dX12_boxes_58 ⟨by show 0 + 0 ≤ 96000 - Y.2.2.2.2.2.2.2.1; omega, by show 0 + 0 ≤ 10 * (96000 - Y.2.2.2.2.2.2.2.1) + 2 * (1542237 - Y.2.2.2.2.2.2.2.2.1); omega⟩ (fun r_23 u_24 H locs q_22 hP hD hS => ?_)
    rcases q_22 with ⟨rfl, rfl, f_25⟩ | ⟨rfl, rfl, f_26⟩
    · show _
      exact absurd (by assumption) f_25
    · show _
      have hP : va_P (dC, dI) vwCl (rW g ty Y pa kp ks I tl ac wr tw) H := hP
      have hD : va_D A (rW g ty Y pa kp ks I tl ac wr tw) := hD
      refine lv_if_eq (tgt := 76) hx hb dX12_boxes_61 (by decide) (fun c9 => absurd c9 (by decide)) (fun _ => ?_)
      refine lv_aload_n hx hb dX12_boxes_64 rfl (lv_at hl 0 rfl) ?_
      refine lv_iload hx hb dX12_boxes_65 (lv_at hl 4 rfl) ?_
      refine lv_bipush (v := 40) hx hb dX12_boxes_67 (by decide) ?_
      refine lv_irem hx hb dX12_boxes_69 (by decide) ?_
      refine cV_i (C := RX12) (n := 1) (rest := []) hx hb hml hown hg hT (c_X12_size l dC dI g ty H.size Y pa kp ks I tl ac wr tw (c0 - c0 / 40 * 40) ) (cv_of hg wM_X12_125 wN_X12_size wL_X12_X12_size wK_X12_size wI_X12 (by decide +kernel) ⟨Nat.le_of_ble_eq_true rfl, Nat.le_of_ble_eq_true rfl⟩) hK hP hD hS hA (va_recv hK hP (ci := 14) (q0 := 0) rfl rfl) rfl hl.1 rfl (Nat.le_of_ble_eq_true rfl) dX12_boxes_70 ⟨by show 0 + 0 + 0 ≤ 96000 - Y.2.2.2.2.2.2.2.1; omega, by show 0 + 0 + 0 ≤ 10 * (96000 - Y.2.2.2.2.2.2.2.1) + 2 * (1542237 - Y.2.2.2.2.2.2.2.2.1); omega⟩ (fun r_28 u_29 H locs q_27 hP hD hS => ?_)
      rcases q_27 with ⟨rfl, rfl, f_30⟩ | ⟨rfl, rfl, f_31⟩
      · show _
        exact absurd (by assumption) f_30
      · show _
        have hP : va_P (dC, dI) vwCl (rW g ty Y pa kp ks I tl ac wr tw) H := hP
        have hD : va_D A (rW g ty Y pa kp ks I tl ac wr tw) := hD
        refine lv_if_ne (tgt := 81) hx hb dX12_boxes_73 (by decide) (fun _ => ?_) (fun c9 => absurd c9 (by decide)) 
        refine lv_aload_n hx hb dX12_boxes_81 rfl (lv_at hl 0 rfl) ?_
        refine va_get (D := (dC, dI)) (ci := 14) (v := .ref (g 9)) (C := RX12) (T := TX12) (N := 21) hx hb hg inG12 hown hK hP 0 rfl rfl 8 (by decide) (hg _ wF_X12_34) (fun _ h9 => h9) rfl dX12_boxes_82 ?_
        refine lv_iload_n hx hb dX12_boxes_85 rfl (lv_at hl 2 rfl) ?_
        refine lv_aload_n hx hb dX12_boxes_86 rfl (lv_at hl 0 rfl) ?_
        refine lv_iload_n hx hb dX12_boxes_87 rfl (lv_at hl 3 rfl) ?_
        refine lv_iconst (v := 3) hx hb dX12_boxes_88 (by decide) ?_
        refine lv_iand hx hb dX12_boxes_89 ?_
        refine lv_if_ne (tgt := 98) hx hb dX12_boxes_90 (by decide) (fun c9 => absurd g5 c9) (fun _ => ?_)
        refine lv_bipush (v := 9) hx hb dX12_boxes_93 (by decide) ?_
        refine lv_goto (tgt := 112) hx hb dX12_boxes_95 (by decide) ?_
        refine lv_iload hx hb dX12_boxes_112 (lv_at hl 4 rfl) ?_
        refine lv_bipush (v := 40) hx hb dX12_boxes_114 (by decide) ?_
        refine lv_irem hx hb dX12_boxes_116 (by decide) ?_
        refine gV_i (C := RX12) (n := 2) (rest := [.int a0, .ref (g 9)]) hx hb hml hown hg hT (c_X12_make l dC dI g ty H.size (hsum H) Y pa kp ks I tl ac wr tw ρ pl P none 9 (c0 - c0 / 40 * 40) (by exact rel) (by exact wf) (by exact Or.inl pre2) (by exact ⟨by assumption, by have := rem_lt40 (by assumption); omega⟩) (by exact cnt_ok hcnt pre5 pre8)) (cv_of hg wM_X12_128 wN_X12_make wL_X12_X12_make wK_X12_make wI_X12 (by decide +kernel) ⟨Nat.le_of_ble_eq_true rfl, Nat.le_of_ble_eq_true rfl⟩) hK hP hD hS hA (va_recv hK hP (ci := 14) (q0 := 0) rfl rfl) rfl hl.1 rfl (Nat.le_of_ble_eq_true rfl) dX12_boxes_117 ⟨by show 0 + 0 + 0 + (96000 - Y.2.2.2.2.2.2.2.1) ≤ 96000 - Y.2.2.2.2.2.2.2.1; omega, by show 0 + 0 + 0 + (10 * (96000 - Y.2.2.2.2.2.2.2.1) + 2 * (1542237 - Y.2.2.2.2.2.2.2.2.1)) ≤ 10 * (96000 - Y.2.2.2.2.2.2.2.1) + 2 * (1542237 - Y.2.2.2.2.2.2.2.2.1); omega⟩ (fun r_33 u_34 H locs q_32 hP hD hS => ?_)
        obtain ⟨r'_35, Y'_36, pa'_37, kp'_38, rfl, rfl, f_39⟩ := q_32
        have hP : va_P (dC, dI) vwCl (rW g ty Y'_36 pa'_37 kp'_38 ks I tl ac wr tw) H := hP
        have hD : va_D A (rW g ty Y'_36 pa'_37 kp'_38 ks I tl ac wr tw) := hD
        obtain ⟨ρ9, rel9, hk9, hth9, hn9, hle9, hgr9⟩ := f_39
        have hgr8 := hgr9.1
        have hgr7 := hgr9.2
        have hlc9 := rl_L rel9.1
        have hin9 : vp_in r'_35 Y'_36.2.2.2.2.2.2.2.1 := i32_in (i32_pos rel9.2.1.1).1 (by have := rel9.1.1.2; have := hth9.2; omega)
        refine va_iast hx hb hK hP hD hS 7 0 rfl rfl (by assumption) dX12_boxes_120 (fun H locs hP hD hS => ?_)
        have hP : va_P (dC, dI) vwCl (rW g ty Y'_36 (upd pa'_37 a0.toNatClampNeg r'_35) kp'_38 ks I tl ac wr tw) H := hP
        have hD : va_D A (rW g ty Y'_36 (upd pa'_37 a0.toNatClampNeg r'_35) kp'_38 ks I tl ac wr tw) := hD
        refine lv_aload_n hx hb dX12_boxes_121 rfl (lv_at hl 0 rfl) ?_
        refine va_get (D := (dC, dI)) (ci := 14) (v := .ref (g 14)) (C := RX12) (T := TX12) (N := 21) hx hb hg inG12 hown hK hP 0 rfl rfl 17 (by decide) (hg _ wF_X12_49) (fun _ h9 => h9) rfl dX12_boxes_122 ?_
        refine lv_iconst (v := 5) hx hb dX12_boxes_125 (by decide) ?_
        refine lv_dup2_11 hx hb dX12_boxes_126 rfl rfl ?_
        refine va_iald hx hb hK hP 12 0 rfl rfl (by exact i32_in (by decide) (by decide)) dX12_boxes_127 ?_
        refine lv_iconst (v := 1) hx hb dX12_boxes_128 (by decide) ?_
        refine lv_iadd hx hb dX12_boxes_129 ?_
        refine va_iast hx hb hK hP hD hS 12 0 rfl rfl (by exact i32_in (by decide) (by decide)) dX12_boxes_130 (fun H locs hP hD hS => ?_)
        have hP : va_P (dC, dI) vwCl (rW g ty Y'_36 (upd pa'_37 a0.toNatClampNeg r'_35) kp'_38 ks I (upd tl 5 ((tl 5) + 1)) ac wr tw) H := hP
        have hD : va_D A (rW g ty Y'_36 (upd pa'_37 a0.toNatClampNeg r'_35) kp'_38 ks I (upd tl 5 ((tl 5) + 1)) ac wr tw) := hD
        refine lv_aload_n hx hb dX12_boxes_131 rfl (lv_at hl 0 rfl) ?_
        refine va_get (D := (dC, dI)) (ci := 14) (v := .ref (Y'_36.2.2.2.2.2.2.1 2)) (C := RX12) (T := TX12) (N := 21) hx hb hg inG12 hown hK hP 0 rfl rfl 2 (by decide) (hg _ wF_X12_16) (fun _ h9 => h9) rfl dX12_boxes_132 ?_
        refine lv_aload_n hx hb dX12_boxes_135 rfl (lv_at hl 0 rfl) ?_
        refine va_get (D := (dC, dI)) (ci := 14) (v := .ref (g 9)) (C := RX12) (T := TX12) (N := 21) hx hb hg inG12 hown hK hP 0 rfl rfl 8 (by decide) (hg _ wF_X12_34) (fun _ h9 => h9) rfl dX12_boxes_136 ?_
        refine lv_iload_n hx hb dX12_boxes_139 rfl (lv_at hl 2 rfl) ?_
        refine va_iald hx hb hK hP 7 0 rfl rfl (by assumption) dX12_boxes_140 ?_
        refine lv_topi (fun x9 ex90 => ?_)
        have ex9 : x9 = ((upd pa'_37 a0.toNatClampNeg r'_35) a0.toNatClampNeg) := ex90
        obtain rfl : r'_35 = x9 := by rw [ex9, upd_at', if_pos rfl]
        refine va_iald hx hb hK hP 3 0 rfl rfl (by exact hin9) dX12_boxes_141 ?_
        refine lv_i2l (v := ((Y'_36.2.2.1 r'_35.toNatClampNeg).toInt64)) hx hb dX12_boxes_142 rfl ?_
        refine W.bound (fun gb1 gb2 => ?_)
        have gb1 : H.size ≤ s.heap.size + (0 + 0 + 0 + (Y'_36.2.2.2.2.2.2.2.1 - Y.2.2.2.2.2.2.2.1)) := gb1
        have gb2 : hsum H ≤ hsum s.heap + (0 + 0 + 0 + (10 * (Y'_36.2.2.2.2.2.2.2.1 - Y.2.2.2.2.2.2.2.1) + 2 * (Y'_36.2.2.2.2.2.2.2.2.1 - Y.2.2.2.2.2.2.2.2.1))) := gb2
        refine W.widen (k := 96000 - Y.2.2.2.2.2.2.2.1) (n := 10 * (96000 - Y.2.2.2.2.2.2.2.1) + 2 * (1542237 - Y.2.2.2.2.2.2.2.2.1)) (by show 0 + 0 + 0 + (Y'_36.2.2.2.2.2.2.2.1 - Y.2.2.2.2.2.2.2.1) ≤ 96000 - Y.2.2.2.2.2.2.2.1; omega) (by show 0 + 0 + 0 + (10 * (Y'_36.2.2.2.2.2.2.2.1 - Y.2.2.2.2.2.2.2.1) + 2 * (Y'_36.2.2.2.2.2.2.2.2.1 - Y.2.2.2.2.2.2.2.2.1)) ≤ 10 * (96000 - Y.2.2.2.2.2.2.2.1) + 2 * (1542237 - Y.2.2.2.2.2.2.2.2.1); omega) ?_
        refine gr_l (wo := fun u : rY × (Nat → Int32) × (Nat → Int32) × (Nat → Int32) × Int32 × Int32 => rW g ty u.1 u.2.1 u.2.2.1 ks I u.2.2.2.1 ac u.2.2.2.2.1 u.2.2.2.2.2) ((Y'_36, (upd pa'_37 a0.toNatClampNeg r'_35), kp'_38, (upd tl 5 ((tl 5) + 1)), wr, tw)) hx hb hr hlk hS hP hD (by show H.size ≤ sz + (Y'_36.2.2.2.2.2.2.2.1 - Y.2.2.2.2.2.2.2.1); rw [← hsz]; omega) (by show hsum H ≤ tot + (10 * (Y'_36.2.2.2.2.2.2.2.1 - Y.2.2.2.2.2.2.2.1) + 2 * (Y'_36.2.2.2.2.2.2.2.2.1 - Y.2.2.2.2.2.2.2.2.1)); rw [← htot]; omega) ?_ dX12_boxes_143
        exact ⟨((Y'_36.2.2.1 r'_35.toNatClampNeg).toInt64), Y'_36, (upd pa'_37 a0.toNatClampNeg r'_35), kp'_38, (upd tl 5 ((tl 5) + 1)), wr, tw, rfl, rfl, (by subst pre6; exact ra_mk wf hcnt pre5 pre8 htl rel9 hth9 hle9 (by have := rem_lt40 (by assumption); omega) hgr9 (by assumption) g6 (agr_two g6 g7 g8) (nw_shelf g8 hn9.1 (congrArg Int32.toNatClampNeg hn9.2.1) hn9.2.2) (congrArg Int32.toInt64 hn9.2.1))⟩
  · show _
    have hb0 : ¬ (b0 &&& 3) = 0 := by rw [g5]; decide
    have hl : lv_has ls 7 [(0, .ref (g 8)), (1, .int 9), (2, .int a0), (3, .int b0), (4, .int c0)] := hl
    refine lv_iload_n hx hb dX12_boxes_0 rfl (lv_at hl 1 rfl) ?_
    refine lv_tableIn (off := 55) (tgt := 56) hx hb dX12_boxes_1 (by decide) (by decide) (by decide) (by decide) ?_
    refine lv_aload_n hx hb dX12_boxes_56 rfl (lv_at hl 0 rfl) ?_
    refine lv_iload_n hx hb dX12_boxes_57 rfl (lv_at hl 2 rfl) ?_
    refine cV_i (C := RX12) (n := 1) (rest := []) hx hb hml hown hg hT (c_X12_place l dC dI g ty s.heap.size Y pa kp ks I tl ac wr tw a0 ) (cv_of hg wM_X12_83 wN_X12_place wL_X12_X12_place wK_X12_place wI_X12 (by decide +kernel) ⟨Nat.le_of_ble_eq_true rfl, Nat.le_of_ble_eq_true rfl⟩) hK hP hD hS hA (va_recv hK hP (ci := 14) (q0 := 0) rfl rfl) rfl hl.1 rfl (Nat.le_of_ble_eq_true rfl) dX12_boxes_58 ⟨by show 0 + 0 ≤ 96000 - Y.2.2.2.2.2.2.2.1; omega, by show 0 + 0 ≤ 10 * (96000 - Y.2.2.2.2.2.2.2.1) + 2 * (1542237 - Y.2.2.2.2.2.2.2.2.1); omega⟩ (fun r_41 u_42 H locs q_40 hP hD hS => ?_)
    rcases q_40 with ⟨rfl, rfl, f_43⟩ | ⟨rfl, rfl, f_44⟩
    · show _
      exact absurd (by assumption) f_43
    · show _
      have hP : va_P (dC, dI) vwCl (rW g ty Y pa kp ks I tl ac wr tw) H := hP
      have hD : va_D A (rW g ty Y pa kp ks I tl ac wr tw) := hD
      refine lv_if_eq (tgt := 76) hx hb dX12_boxes_61 (by decide) (fun c9 => absurd c9 (by decide)) (fun _ => ?_)
      refine lv_aload_n hx hb dX12_boxes_64 rfl (lv_at hl 0 rfl) ?_
      refine lv_iload hx hb dX12_boxes_65 (lv_at hl 4 rfl) ?_
      refine lv_bipush (v := 40) hx hb dX12_boxes_67 (by decide) ?_
      refine lv_irem hx hb dX12_boxes_69 (by decide) ?_
      refine cV_i (C := RX12) (n := 1) (rest := []) hx hb hml hown hg hT (c_X12_size l dC dI g ty H.size Y pa kp ks I tl ac wr tw (c0 - c0 / 40 * 40) ) (cv_of hg wM_X12_125 wN_X12_size wL_X12_X12_size wK_X12_size wI_X12 (by decide +kernel) ⟨Nat.le_of_ble_eq_true rfl, Nat.le_of_ble_eq_true rfl⟩) hK hP hD hS hA (va_recv hK hP (ci := 14) (q0 := 0) rfl rfl) rfl hl.1 rfl (Nat.le_of_ble_eq_true rfl) dX12_boxes_70 ⟨by show 0 + 0 + 0 ≤ 96000 - Y.2.2.2.2.2.2.2.1; omega, by show 0 + 0 + 0 ≤ 10 * (96000 - Y.2.2.2.2.2.2.2.1) + 2 * (1542237 - Y.2.2.2.2.2.2.2.2.1); omega⟩ (fun r_46 u_47 H locs q_45 hP hD hS => ?_)
      rcases q_45 with ⟨rfl, rfl, f_48⟩ | ⟨rfl, rfl, f_49⟩
      · show _
        exact absurd (by assumption) f_48
      · show _
        have hP : va_P (dC, dI) vwCl (rW g ty Y pa kp ks I tl ac wr tw) H := hP
        have hD : va_D A (rW g ty Y pa kp ks I tl ac wr tw) := hD
        refine lv_if_ne (tgt := 81) hx hb dX12_boxes_73 (by decide) (fun _ => ?_) (fun c9 => absurd c9 (by decide)) 
        refine lv_aload_n hx hb dX12_boxes_81 rfl (lv_at hl 0 rfl) ?_
        refine va_get (D := (dC, dI)) (ci := 14) (v := .ref (g 9)) (C := RX12) (T := TX12) (N := 21) hx hb hg inG12 hown hK hP 0 rfl rfl 8 (by decide) (hg _ wF_X12_34) (fun _ h9 => h9) rfl dX12_boxes_82 ?_
        refine lv_iload_n hx hb dX12_boxes_85 rfl (lv_at hl 2 rfl) ?_
        refine lv_aload_n hx hb dX12_boxes_86 rfl (lv_at hl 0 rfl) ?_
        refine lv_iload_n hx hb dX12_boxes_87 rfl (lv_at hl 3 rfl) ?_
        refine lv_iconst (v := 3) hx hb dX12_boxes_88 (by decide) ?_
        refine lv_iand hx hb dX12_boxes_89 ?_
        refine lv_if_ne (tgt := 98) hx hb dX12_boxes_90 (by decide) (fun _ => ?_) (fun c9 => absurd c9 hb0)
        refine lv_iload_n hx hb dX12_boxes_98 rfl (lv_at hl 3 rfl) ?_
        refine lv_iconst (v := 3) hx hb dX12_boxes_99 (by decide) ?_
        refine lv_iand hx hb dX12_boxes_100 ?_
        refine lv_iconst (v := 1) hx hb dX12_boxes_101 (by decide) ?_
        refine lv_icmp_ne (tgt := 110) hx hb dX12_boxes_102 (by decide) (fun c9 => absurd g5 c9) (fun _ => ?_)
        refine lv_bipush (v := 10) hx hb dX12_boxes_105 (by decide) ?_
        refine lv_goto (tgt := 112) hx hb dX12_boxes_107 (by decide) ?_
        refine lv_iload hx hb dX12_boxes_112 (lv_at hl 4 rfl) ?_
        refine lv_bipush (v := 40) hx hb dX12_boxes_114 (by decide) ?_
        refine lv_irem hx hb dX12_boxes_116 (by decide) ?_
        refine gV_i (C := RX12) (n := 2) (rest := [.int a0, .ref (g 9)]) hx hb hml hown hg hT (c_X12_make l dC dI g ty H.size (hsum H) Y pa kp ks I tl ac wr tw ρ pl P none 10 (c0 - c0 / 40 * 40) (by exact rel) (by exact wf) (by exact Or.inl pre2) (by exact ⟨by assumption, by have := rem_lt40 (by assumption); omega⟩) (by exact cnt_ok hcnt pre5 pre8)) (cv_of hg wM_X12_128 wN_X12_make wL_X12_X12_make wK_X12_make wI_X12 (by decide +kernel) ⟨Nat.le_of_ble_eq_true rfl, Nat.le_of_ble_eq_true rfl⟩) hK hP hD hS hA (va_recv hK hP (ci := 14) (q0 := 0) rfl rfl) rfl hl.1 rfl (Nat.le_of_ble_eq_true rfl) dX12_boxes_117 ⟨by show 0 + 0 + 0 + (96000 - Y.2.2.2.2.2.2.2.1) ≤ 96000 - Y.2.2.2.2.2.2.2.1; omega, by show 0 + 0 + 0 + (10 * (96000 - Y.2.2.2.2.2.2.2.1) + 2 * (1542237 - Y.2.2.2.2.2.2.2.2.1)) ≤ 10 * (96000 - Y.2.2.2.2.2.2.2.1) + 2 * (1542237 - Y.2.2.2.2.2.2.2.2.1); omega⟩ (fun r_51 u_52 H locs q_50 hP hD hS => ?_)
        obtain ⟨r'_53, Y'_54, pa'_55, kp'_56, rfl, rfl, f_57⟩ := q_50
        have hP : va_P (dC, dI) vwCl (rW g ty Y'_54 pa'_55 kp'_56 ks I tl ac wr tw) H := hP
        have hD : va_D A (rW g ty Y'_54 pa'_55 kp'_56 ks I tl ac wr tw) := hD
        obtain ⟨ρ9, rel9, hk9, hth9, hn9, hle9, hgr9⟩ := f_57
        have hgr8 := hgr9.1
        have hgr7 := hgr9.2
        have hlc9 := rl_L rel9.1
        have hin9 : vp_in r'_53 Y'_54.2.2.2.2.2.2.2.1 := i32_in (i32_pos rel9.2.1.1).1 (by have := rel9.1.1.2; have := hth9.2; omega)
        refine va_iast hx hb hK hP hD hS 7 0 rfl rfl (by assumption) dX12_boxes_120 (fun H locs hP hD hS => ?_)
        have hP : va_P (dC, dI) vwCl (rW g ty Y'_54 (upd pa'_55 a0.toNatClampNeg r'_53) kp'_56 ks I tl ac wr tw) H := hP
        have hD : va_D A (rW g ty Y'_54 (upd pa'_55 a0.toNatClampNeg r'_53) kp'_56 ks I tl ac wr tw) := hD
        refine lv_aload_n hx hb dX12_boxes_121 rfl (lv_at hl 0 rfl) ?_
        refine va_get (D := (dC, dI)) (ci := 14) (v := .ref (g 14)) (C := RX12) (T := TX12) (N := 21) hx hb hg inG12 hown hK hP 0 rfl rfl 17 (by decide) (hg _ wF_X12_49) (fun _ h9 => h9) rfl dX12_boxes_122 ?_
        refine lv_iconst (v := 5) hx hb dX12_boxes_125 (by decide) ?_
        refine lv_dup2_11 hx hb dX12_boxes_126 rfl rfl ?_
        refine va_iald hx hb hK hP 12 0 rfl rfl (by exact i32_in (by decide) (by decide)) dX12_boxes_127 ?_
        refine lv_iconst (v := 1) hx hb dX12_boxes_128 (by decide) ?_
        refine lv_iadd hx hb dX12_boxes_129 ?_
        refine va_iast hx hb hK hP hD hS 12 0 rfl rfl (by exact i32_in (by decide) (by decide)) dX12_boxes_130 (fun H locs hP hD hS => ?_)
        have hP : va_P (dC, dI) vwCl (rW g ty Y'_54 (upd pa'_55 a0.toNatClampNeg r'_53) kp'_56 ks I (upd tl 5 ((tl 5) + 1)) ac wr tw) H := hP
        have hD : va_D A (rW g ty Y'_54 (upd pa'_55 a0.toNatClampNeg r'_53) kp'_56 ks I (upd tl 5 ((tl 5) + 1)) ac wr tw) := hD
        refine lv_aload_n hx hb dX12_boxes_131 rfl (lv_at hl 0 rfl) ?_
        refine va_get (D := (dC, dI)) (ci := 14) (v := .ref (Y'_54.2.2.2.2.2.2.1 2)) (C := RX12) (T := TX12) (N := 21) hx hb hg inG12 hown hK hP 0 rfl rfl 2 (by decide) (hg _ wF_X12_16) (fun _ h9 => h9) rfl dX12_boxes_132 ?_
        refine lv_aload_n hx hb dX12_boxes_135 rfl (lv_at hl 0 rfl) ?_
        refine va_get (D := (dC, dI)) (ci := 14) (v := .ref (g 9)) (C := RX12) (T := TX12) (N := 21) hx hb hg inG12 hown hK hP 0 rfl rfl 8 (by decide) (hg _ wF_X12_34) (fun _ h9 => h9) rfl dX12_boxes_136 ?_
        refine lv_iload_n hx hb dX12_boxes_139 rfl (lv_at hl 2 rfl) ?_
        refine va_iald hx hb hK hP 7 0 rfl rfl (by assumption) dX12_boxes_140 ?_
        refine lv_topi (fun x9 ex90 => ?_)
        have ex9 : x9 = ((upd pa'_55 a0.toNatClampNeg r'_53) a0.toNatClampNeg) := ex90
        obtain rfl : r'_53 = x9 := by rw [ex9, upd_at', if_pos rfl]
        refine va_iald hx hb hK hP 3 0 rfl rfl (by exact hin9) dX12_boxes_141 ?_
        refine lv_i2l (v := ((Y'_54.2.2.1 r'_53.toNatClampNeg).toInt64)) hx hb dX12_boxes_142 rfl ?_
        refine W.bound (fun gb1 gb2 => ?_)
        have gb1 : H.size ≤ s.heap.size + (0 + 0 + 0 + (Y'_54.2.2.2.2.2.2.2.1 - Y.2.2.2.2.2.2.2.1)) := gb1
        have gb2 : hsum H ≤ hsum s.heap + (0 + 0 + 0 + (10 * (Y'_54.2.2.2.2.2.2.2.1 - Y.2.2.2.2.2.2.2.1) + 2 * (Y'_54.2.2.2.2.2.2.2.2.1 - Y.2.2.2.2.2.2.2.2.1))) := gb2
        refine W.widen (k := 96000 - Y.2.2.2.2.2.2.2.1) (n := 10 * (96000 - Y.2.2.2.2.2.2.2.1) + 2 * (1542237 - Y.2.2.2.2.2.2.2.2.1)) (by show 0 + 0 + 0 + (Y'_54.2.2.2.2.2.2.2.1 - Y.2.2.2.2.2.2.2.1) ≤ 96000 - Y.2.2.2.2.2.2.2.1; omega) (by show 0 + 0 + 0 + (10 * (Y'_54.2.2.2.2.2.2.2.1 - Y.2.2.2.2.2.2.2.1) + 2 * (Y'_54.2.2.2.2.2.2.2.2.1 - Y.2.2.2.2.2.2.2.2.1)) ≤ 10 * (96000 - Y.2.2.2.2.2.2.2.1) + 2 * (1542237 - Y.2.2.2.2.2.2.2.2.1); omega) ?_
        refine gr_l (wo := fun u : rY × (Nat → Int32) × (Nat → Int32) × (Nat → Int32) × Int32 × Int32 => rW g ty u.1 u.2.1 u.2.2.1 ks I u.2.2.2.1 ac u.2.2.2.2.1 u.2.2.2.2.2) ((Y'_54, (upd pa'_55 a0.toNatClampNeg r'_53), kp'_56, (upd tl 5 ((tl 5) + 1)), wr, tw)) hx hb hr hlk hS hP hD (by show H.size ≤ sz + (Y'_54.2.2.2.2.2.2.2.1 - Y.2.2.2.2.2.2.2.1); rw [← hsz]; omega) (by show hsum H ≤ tot + (10 * (Y'_54.2.2.2.2.2.2.2.1 - Y.2.2.2.2.2.2.2.1) + 2 * (Y'_54.2.2.2.2.2.2.2.2.1 - Y.2.2.2.2.2.2.2.2.1)); rw [← htot]; omega) ?_ dX12_boxes_143
        exact ⟨((Y'_54.2.2.1 r'_53.toNatClampNeg).toInt64), Y'_54, (upd pa'_55 a0.toNatClampNeg r'_53), kp'_56, (upd tl 5 ((tl 5) + 1)), wr, tw, rfl, rfl, (by subst pre6; exact ra_mk wf hcnt pre5 pre8 htl rel9 hth9 hle9 (by have := rem_lt40 (by assumption); omega) hgr9 (by assumption) g6 (agr_two g6 g7 g8) (nw_shelf g8 hn9.1 (congrArg Int32.toNatClampNeg hn9.2.1) hn9.2.2) (congrArg Int32.toInt64 hn9.2.1))⟩
  · show _
    have hl : lv_has ls 7 [(0, .ref (g 8)), (1, .int 9), (2, .int a0), (3, .int b0), (4, .int c0)] := hl
    refine lv_iload_n hx hb dX12_boxes_0 rfl (lv_at hl 1 rfl) ?_
    refine lv_tableIn (off := 55) (tgt := 56) hx hb dX12_boxes_1 (by decide) (by decide) (by decide) (by decide) ?_
    refine lv_aload_n hx hb dX12_boxes_56 rfl (lv_at hl 0 rfl) ?_
    refine lv_iload_n hx hb dX12_boxes_57 rfl (lv_at hl 2 rfl) ?_
    refine cV_i (C := RX12) (n := 1) (rest := []) hx hb hml hown hg hT (c_X12_place l dC dI g ty s.heap.size Y pa kp ks I tl ac wr tw a0 ) (cv_of hg wM_X12_83 wN_X12_place wL_X12_X12_place wK_X12_place wI_X12 (by decide +kernel) ⟨Nat.le_of_ble_eq_true rfl, Nat.le_of_ble_eq_true rfl⟩) hK hP hD hS hA (va_recv hK hP (ci := 14) (q0 := 0) rfl rfl) rfl hl.1 rfl (Nat.le_of_ble_eq_true rfl) dX12_boxes_58 ⟨by show 0 + 0 ≤ 96000 - Y.2.2.2.2.2.2.2.1; omega, by show 0 + 0 ≤ 10 * (96000 - Y.2.2.2.2.2.2.2.1) + 2 * (1542237 - Y.2.2.2.2.2.2.2.2.1); omega⟩ (fun r_59 u_60 H locs q_58 hP hD hS => ?_)
    rcases q_58 with ⟨rfl, rfl, f_61⟩ | ⟨rfl, rfl, f_62⟩
    · show _
      exact absurd (by assumption) f_61
    · show _
      have hP : va_P (dC, dI) vwCl (rW g ty Y pa kp ks I tl ac wr tw) H := hP
      have hD : va_D A (rW g ty Y pa kp ks I tl ac wr tw) := hD
      refine lv_if_eq (tgt := 76) hx hb dX12_boxes_61 (by decide) (fun c9 => absurd c9 (by decide)) (fun _ => ?_)
      refine lv_aload_n hx hb dX12_boxes_64 rfl (lv_at hl 0 rfl) ?_
      refine lv_iload hx hb dX12_boxes_65 (lv_at hl 4 rfl) ?_
      refine lv_bipush (v := 40) hx hb dX12_boxes_67 (by decide) ?_
      refine lv_irem hx hb dX12_boxes_69 (by decide) ?_
      refine cV_i (C := RX12) (n := 1) (rest := []) hx hb hml hown hg hT (c_X12_size l dC dI g ty H.size Y pa kp ks I tl ac wr tw (c0 - c0 / 40 * 40) ) (cv_of hg wM_X12_125 wN_X12_size wL_X12_X12_size wK_X12_size wI_X12 (by decide +kernel) ⟨Nat.le_of_ble_eq_true rfl, Nat.le_of_ble_eq_true rfl⟩) hK hP hD hS hA (va_recv hK hP (ci := 14) (q0 := 0) rfl rfl) rfl hl.1 rfl (Nat.le_of_ble_eq_true rfl) dX12_boxes_70 ⟨by show 0 + 0 + 0 ≤ 96000 - Y.2.2.2.2.2.2.2.1; omega, by show 0 + 0 + 0 ≤ 10 * (96000 - Y.2.2.2.2.2.2.2.1) + 2 * (1542237 - Y.2.2.2.2.2.2.2.2.1); omega⟩ (fun r_64 u_65 H locs q_63 hP hD hS => ?_)
      rcases q_63 with ⟨rfl, rfl, f_66⟩ | ⟨rfl, rfl, f_67⟩
      · show _
        exact absurd (by assumption) f_66
      · show _
        have hP : va_P (dC, dI) vwCl (rW g ty Y pa kp ks I tl ac wr tw) H := hP
        have hD : va_D A (rW g ty Y pa kp ks I tl ac wr tw) := hD
        refine lv_if_ne (tgt := 81) hx hb dX12_boxes_73 (by decide) (fun _ => ?_) (fun c9 => absurd c9 (by decide)) 
        refine lv_aload_n hx hb dX12_boxes_81 rfl (lv_at hl 0 rfl) ?_
        refine va_get (D := (dC, dI)) (ci := 14) (v := .ref (g 9)) (C := RX12) (T := TX12) (N := 21) hx hb hg inG12 hown hK hP 0 rfl rfl 8 (by decide) (hg _ wF_X12_34) (fun _ h9 => h9) rfl dX12_boxes_82 ?_
        refine lv_iload_n hx hb dX12_boxes_85 rfl (lv_at hl 2 rfl) ?_
        refine lv_aload_n hx hb dX12_boxes_86 rfl (lv_at hl 0 rfl) ?_
        refine lv_iload_n hx hb dX12_boxes_87 rfl (lv_at hl 3 rfl) ?_
        refine lv_iconst (v := 3) hx hb dX12_boxes_88 (by decide) ?_
        refine lv_iand hx hb dX12_boxes_89 ?_
        refine lv_if_ne (tgt := 98) hx hb dX12_boxes_90 (by decide) (fun _ => ?_) (fun c9 => absurd c9 g5)
        refine lv_iload_n hx hb dX12_boxes_98 rfl (lv_at hl 3 rfl) ?_
        refine lv_iconst (v := 3) hx hb dX12_boxes_99 (by decide) ?_
        refine lv_iand hx hb dX12_boxes_100 ?_
        refine lv_iconst (v := 1) hx hb dX12_boxes_101 (by decide) ?_
        refine lv_icmp_ne (tgt := 110) hx hb dX12_boxes_102 (by decide) (fun _ => ?_) (fun c9 => absurd c9 g6)
        refine lv_bipush (v := 11) hx hb dX12_boxes_110 (by decide) ?_
        refine lv_iload hx hb dX12_boxes_112 (lv_at hl 4 rfl) ?_
        refine lv_bipush (v := 40) hx hb dX12_boxes_114 (by decide) ?_
        refine lv_irem hx hb dX12_boxes_116 (by decide) ?_
        refine gV_i (C := RX12) (n := 2) (rest := [.int a0, .ref (g 9)]) hx hb hml hown hg hT (c_X12_make l dC dI g ty H.size (hsum H) Y pa kp ks I tl ac wr tw ρ pl P none 11 (c0 - c0 / 40 * 40) (by exact rel) (by exact wf) (by exact Or.inl pre2) (by exact ⟨by assumption, by have := rem_lt40 (by assumption); omega⟩) (by exact cnt_ok hcnt pre5 pre8)) (cv_of hg wM_X12_128 wN_X12_make wL_X12_X12_make wK_X12_make wI_X12 (by decide +kernel) ⟨Nat.le_of_ble_eq_true rfl, Nat.le_of_ble_eq_true rfl⟩) hK hP hD hS hA (va_recv hK hP (ci := 14) (q0 := 0) rfl rfl) rfl hl.1 rfl (Nat.le_of_ble_eq_true rfl) dX12_boxes_117 ⟨by show 0 + 0 + 0 + (96000 - Y.2.2.2.2.2.2.2.1) ≤ 96000 - Y.2.2.2.2.2.2.2.1; omega, by show 0 + 0 + 0 + (10 * (96000 - Y.2.2.2.2.2.2.2.1) + 2 * (1542237 - Y.2.2.2.2.2.2.2.2.1)) ≤ 10 * (96000 - Y.2.2.2.2.2.2.2.1) + 2 * (1542237 - Y.2.2.2.2.2.2.2.2.1); omega⟩ (fun r_69 u_70 H locs q_68 hP hD hS => ?_)
        obtain ⟨r'_71, Y'_72, pa'_73, kp'_74, rfl, rfl, f_75⟩ := q_68
        have hP : va_P (dC, dI) vwCl (rW g ty Y'_72 pa'_73 kp'_74 ks I tl ac wr tw) H := hP
        have hD : va_D A (rW g ty Y'_72 pa'_73 kp'_74 ks I tl ac wr tw) := hD
        obtain ⟨ρ9, rel9, hk9, hth9, hn9, hle9, hgr9⟩ := f_75
        have hgr8 := hgr9.1
        have hgr7 := hgr9.2
        have hlc9 := rl_L rel9.1
        have hin9 : vp_in r'_71 Y'_72.2.2.2.2.2.2.2.1 := i32_in (i32_pos rel9.2.1.1).1 (by have := rel9.1.1.2; have := hth9.2; omega)
        refine va_iast hx hb hK hP hD hS 7 0 rfl rfl (by assumption) dX12_boxes_120 (fun H locs hP hD hS => ?_)
        have hP : va_P (dC, dI) vwCl (rW g ty Y'_72 (upd pa'_73 a0.toNatClampNeg r'_71) kp'_74 ks I tl ac wr tw) H := hP
        have hD : va_D A (rW g ty Y'_72 (upd pa'_73 a0.toNatClampNeg r'_71) kp'_74 ks I tl ac wr tw) := hD
        refine lv_aload_n hx hb dX12_boxes_121 rfl (lv_at hl 0 rfl) ?_
        refine va_get (D := (dC, dI)) (ci := 14) (v := .ref (g 14)) (C := RX12) (T := TX12) (N := 21) hx hb hg inG12 hown hK hP 0 rfl rfl 17 (by decide) (hg _ wF_X12_49) (fun _ h9 => h9) rfl dX12_boxes_122 ?_
        refine lv_iconst (v := 5) hx hb dX12_boxes_125 (by decide) ?_
        refine lv_dup2_11 hx hb dX12_boxes_126 rfl rfl ?_
        refine va_iald hx hb hK hP 12 0 rfl rfl (by exact i32_in (by decide) (by decide)) dX12_boxes_127 ?_
        refine lv_iconst (v := 1) hx hb dX12_boxes_128 (by decide) ?_
        refine lv_iadd hx hb dX12_boxes_129 ?_
        refine va_iast hx hb hK hP hD hS 12 0 rfl rfl (by exact i32_in (by decide) (by decide)) dX12_boxes_130 (fun H locs hP hD hS => ?_)
        have hP : va_P (dC, dI) vwCl (rW g ty Y'_72 (upd pa'_73 a0.toNatClampNeg r'_71) kp'_74 ks I (upd tl 5 ((tl 5) + 1)) ac wr tw) H := hP
        have hD : va_D A (rW g ty Y'_72 (upd pa'_73 a0.toNatClampNeg r'_71) kp'_74 ks I (upd tl 5 ((tl 5) + 1)) ac wr tw) := hD
        refine lv_aload_n hx hb dX12_boxes_131 rfl (lv_at hl 0 rfl) ?_
        refine va_get (D := (dC, dI)) (ci := 14) (v := .ref (Y'_72.2.2.2.2.2.2.1 2)) (C := RX12) (T := TX12) (N := 21) hx hb hg inG12 hown hK hP 0 rfl rfl 2 (by decide) (hg _ wF_X12_16) (fun _ h9 => h9) rfl dX12_boxes_132 ?_
        refine lv_aload_n hx hb dX12_boxes_135 rfl (lv_at hl 0 rfl) ?_
        refine va_get (D := (dC, dI)) (ci := 14) (v := .ref (g 9)) (C := RX12) (T := TX12) (N := 21) hx hb hg inG12 hown hK hP 0 rfl rfl 8 (by decide) (hg _ wF_X12_34) (fun _ h9 => h9) rfl dX12_boxes_136 ?_
        refine lv_iload_n hx hb dX12_boxes_139 rfl (lv_at hl 2 rfl) ?_
        refine va_iald hx hb hK hP 7 0 rfl rfl (by assumption) dX12_boxes_140 ?_
        refine lv_topi (fun x9 ex90 => ?_)
        have ex9 : x9 = ((upd pa'_73 a0.toNatClampNeg r'_71) a0.toNatClampNeg) := ex90
        obtain rfl : r'_71 = x9 := by rw [ex9, upd_at', if_pos rfl]
        refine va_iald hx hb hK hP 3 0 rfl rfl (by exact hin9) dX12_boxes_141 ?_
        refine lv_i2l (v := ((Y'_72.2.2.1 r'_71.toNatClampNeg).toInt64)) hx hb dX12_boxes_142 rfl ?_
        refine W.bound (fun gb1 gb2 => ?_)
        have gb1 : H.size ≤ s.heap.size + (0 + 0 + 0 + (Y'_72.2.2.2.2.2.2.2.1 - Y.2.2.2.2.2.2.2.1)) := gb1
        have gb2 : hsum H ≤ hsum s.heap + (0 + 0 + 0 + (10 * (Y'_72.2.2.2.2.2.2.2.1 - Y.2.2.2.2.2.2.2.1) + 2 * (Y'_72.2.2.2.2.2.2.2.2.1 - Y.2.2.2.2.2.2.2.2.1))) := gb2
        refine W.widen (k := 96000 - Y.2.2.2.2.2.2.2.1) (n := 10 * (96000 - Y.2.2.2.2.2.2.2.1) + 2 * (1542237 - Y.2.2.2.2.2.2.2.2.1)) (by show 0 + 0 + 0 + (Y'_72.2.2.2.2.2.2.2.1 - Y.2.2.2.2.2.2.2.1) ≤ 96000 - Y.2.2.2.2.2.2.2.1; omega) (by show 0 + 0 + 0 + (10 * (Y'_72.2.2.2.2.2.2.2.1 - Y.2.2.2.2.2.2.2.1) + 2 * (Y'_72.2.2.2.2.2.2.2.2.1 - Y.2.2.2.2.2.2.2.2.1)) ≤ 10 * (96000 - Y.2.2.2.2.2.2.2.1) + 2 * (1542237 - Y.2.2.2.2.2.2.2.2.1); omega) ?_
        refine gr_l (wo := fun u : rY × (Nat → Int32) × (Nat → Int32) × (Nat → Int32) × Int32 × Int32 => rW g ty u.1 u.2.1 u.2.2.1 ks I u.2.2.2.1 ac u.2.2.2.2.1 u.2.2.2.2.2) ((Y'_72, (upd pa'_73 a0.toNatClampNeg r'_71), kp'_74, (upd tl 5 ((tl 5) + 1)), wr, tw)) hx hb hr hlk hS hP hD (by show H.size ≤ sz + (Y'_72.2.2.2.2.2.2.2.1 - Y.2.2.2.2.2.2.2.1); rw [← hsz]; omega) (by show hsum H ≤ tot + (10 * (Y'_72.2.2.2.2.2.2.2.1 - Y.2.2.2.2.2.2.2.1) + 2 * (Y'_72.2.2.2.2.2.2.2.2.1 - Y.2.2.2.2.2.2.2.2.1)); rw [← htot]; omega) ?_ dX12_boxes_143
        exact ⟨((Y'_72.2.2.1 r'_71.toNatClampNeg).toInt64), Y'_72, (upd pa'_73 a0.toNatClampNeg r'_71), kp'_74, (upd tl 5 ((tl 5) + 1)), wr, tw, rfl, rfl, (by subst pre6; exact ra_mk wf hcnt pre5 pre8 htl rel9 hth9 hle9 (by have := rem_lt40 (by assumption); omega) hgr9 (by assumption) g7 (agr_two g7 g8 g9) (nw_shelf g9 hn9.1 (congrArg Int32.toNatClampNeg hn9.2.1) hn9.2.2) (congrArg Int32.toInt64 hn9.2.1))⟩
set_option maxHeartbeats 800000 in
set_option maxRecDepth 100000 in
theorem c_X12_boxes_13 (l : Launch) (dC : Nat → ClassId) (dI : Nat → Nat → Nat) (g : Nat → Nat) (ty : Nat → ClassId) (sz tot : Nat) (Y : rY) (pa : Nat → Int32) (kp : Nat → Int32) (ks : Int32) (I : rI) (tl : Nat → Int32) (ac : Int64) (wr : Int32) (tw : Int32) (ρ : Nat → Nat) (pl : Nat → Option Nat) (P : cQ) (md : Int32) (Z : cZ) (rz9 : Int64) (u9 : (Nat → Option Nat) × Int32 × Int32 × cQ) (a0 : Int32) (b0 : Int32) (c0 : Int32) (pre0 : rR Y.2.2.2.2.2.2.2.2.2.1 Y pa ρ pl P) (pre1 : cWF pl P) (pre2 : ks = 0) (pre3 : rCnt Y md) (pre4 : tl 5 = md) (pre5 : 0 ≤ md ∧ md ≤ 6000) (pre6 : tw = 0) (pre7 : q_X11_makeBox a0 b0 pl ac (-1) md Z P rz9 u9) (pre8 : md < 6000) : Met l yX12_boxes (Cond.code yX12_boxes cX12_boxes 7 (some .long) :: gT) ({ frames := 3, cells := 96000 - Y.2.2.2.2.2.2.2.1, slots := 10 * (96000 - Y.2.2.2.2.2.2.2.1) + 2 * (1542237 - Y.2.2.2.2.2.2.2.2.1), locals := 82 }) (cPg (dC, dI) (rTy ty) (rW g ty Y pa kp ks I tl ac wr tw) sz tot [.ref (g 8), .int 13, .int a0, .int b0, .int c0]) (va_Ql (fun (rz : Int64) (u : rY × (Nat → Int32) × (Nat → Int32) × (Nat → Int32) × Int32 × Int32) => ∃ (r' : Int64) (Y' : rY) (pa' kp' tl' : Nat → Int32) (wr' tw' : Int32), r' = rz ∧ (Y', pa', kp', tl', wr', tw') = u ∧ rAns u9.2.1 rz9 u9.1 u9.2.2.2 u9.2.2.1 tl Y r' Y' pa' tl' wr' tw') (cBg (dC, dI) (fun u : rY × (Nat → Int32) × (Nat → Int32) × (Nat → Int32) × Int32 × Int32 => rW g ty u.1 u.2.1 u.2.2.1 ks I u.2.2.2.1 ac u.2.2.2.2.1 u.2.2.2.2.2) (va_A (rW g ty Y pa kp ks I tl ac wr tw) sz) sz tot (fun u : rY × (Nat → Int32) × (Nat → Int32) × (Nat → Int32) × Int32 × Int32 => u.1.2.2.2.2.2.2.2.1 - Y.2.2.2.2.2.2.2.1) (fun u : rY × (Nat → Int32) × (Nat → Int32) × (Nat → Int32) × Int32 × Int32 => 10 * (u.1.2.2.2.2.2.2.2.1 - Y.2.2.2.2.2.2.2.1) + 2 * (u.1.2.2.2.2.2.2.2.2.1 - Y.2.2.2.2.2.2.2.2.1))) (va_A (rW g ty Y pa kp ks I tl ac wr tw) sz)) (96000 - Y.2.2.2.2.2.2.2.1) (10 * (96000 - Y.2.2.2.2.2.2.2.1) + 2 * (1542237 - Y.2.2.2.2.2.2.2.2.1)) (va_A (rW g ty Y pa kp ks I tl ac wr tw) sz) := by
  refine cg_of (Qa := fun A => va_Ql (fun (rz : Int64) (u : rY × (Nat → Int32) × (Nat → Int32) × (Nat → Int32) × Int32 × Int32) => ∃ (r' : Int64) (Y' : rY) (pa' kp' tl' : Nat → Int32) (wr' tw' : Int32), r' = rz ∧ (Y', pa', kp', tl', wr', tw') = u ∧ rAns u9.2.1 rz9 u9.1 u9.2.2.2 u9.2.2.1 tl Y r' Y' pa' tl' wr' tw') (cBg (dC, dI) (fun u : rY × (Nat → Int32) × (Nat → Int32) × (Nat → Int32) × Int32 × Int32 => rW g ty u.1 u.2.1 u.2.2.1 ks I u.2.2.2.1 ac u.2.2.2.2.1 u.2.2.2.2.2) A sz tot (fun u : rY × (Nat → Int32) × (Nat → Int32) × (Nat → Int32) × Int32 × Int32 => u.1.2.2.2.2.2.2.2.1 - Y.2.2.2.2.2.2.2.1) (fun u : rY × (Nat → Int32) × (Nat → Int32) × (Nat → Int32) × Int32 × Int32 => 10 * (u.1.2.2.2.2.2.2.2.1 - Y.2.2.2.2.2.2.2.1) + 2 * (u.1.2.2.2.2.2.2.2.2.1 - Y.2.2.2.2.2.2.2.2.1))) A) (by decide) (Nat.le_of_ble_eq_true rfl) ?_
  intro p e s m below meth c A hx hb hr hml hown hg hlk hmn hP hK hD hT hS hA hsz htot ls hl
  have hown : s.vm.findClass RX12 = some m.cls := hown
  have rel := pre0
  have wf := pre1
  have hcnt := pre3
  have htl := pre4
  rcases pre7 with ⟨rfl, rfl, g2⟩ | ⟨rfl, rfl, g2, g3⟩ | ⟨q, rfl, rfl, g2, g3, g4, g5⟩ | ⟨q, rfl, rfl, g2, g3, g4, g5⟩ | ⟨q, rfl, rfl, g2, g3, g4, g5⟩ | ⟨q, rfl, rfl, g2, g3, g4, g5, g6, g7⟩
  · show _
    exact absurd pre8 g2
  · show _
    have hl : lv_has ls 7 [(0, .ref (g 8)), (1, .int 13), (2, .int a0), (3, .int b0), (4, .int c0)] := hl
    refine lv_iload_n hx hb dX12_boxes_0 rfl (lv_at hl 1 rfl) ?_
    refine lv_tableIn (off := 354) (tgt := 355) hx hb dX12_boxes_1 (by decide) (by decide) (by decide) (by decide) ?_
    refine lv_aload_n hx hb dX12_boxes_355 rfl (lv_at hl 0 rfl) ?_
    refine lv_iload_n hx hb dX12_boxes_356 rfl (lv_at hl 2 rfl) ?_
    refine cV_i (C := RX12) (n := 1) (rest := []) hx hb hml hown hg hT (c_X12_place l dC dI g ty s.heap.size Y pa kp ks I tl ac wr tw a0 ) (cv_of hg wM_X12_83 wN_X12_place wL_X12_X12_place wK_X12_place wI_X12 (by decide +kernel) ⟨Nat.le_of_ble_eq_true rfl, Nat.le_of_ble_eq_true rfl⟩) hK hP hD hS hA (va_recv hK hP (ci := 14) (q0 := 0) rfl rfl) rfl hl.1 rfl (Nat.le_of_ble_eq_true rfl) dX12_boxes_357 ⟨by show 0 + 0 ≤ 96000 - Y.2.2.2.2.2.2.2.1; omega, by show 0 + 0 ≤ 10 * (96000 - Y.2.2.2.2.2.2.2.1) + 2 * (1542237 - Y.2.2.2.2.2.2.2.2.1); omega⟩ (fun r_2 u_3 H locs q_1 hP hD hS => ?_)
    rcases q_1 with ⟨rfl, rfl, f_4⟩ | ⟨rfl, rfl, f_5⟩
    · show _
      have hP : va_P (dC, dI) vwCl (rW g ty Y pa kp ks I tl ac 2 tw) H := hP
      have hD : va_D A (rW g ty Y pa kp ks I tl ac 2 tw) := hD
      refine lv_if_ne (tgt := 368) hx hb dX12_boxes_360 (by decide) (fun c9 => absurd (by decide) c9) (fun _ => ?_)
      refine lv_aload_n hx hb dX12_boxes_363 rfl (lv_at hl 0 rfl) ?_
      refine cV_l (C := RX12) (n := 0) (rest := []) hx hb hml hown hg hT (c_X12_no l dC dI g ty H.size Y pa kp ks I tl ac 2 tw  ) (cv_of hg wM_X12_107 wN_X12_no wL_X12_X12_no wK_X12_no wI_X12 (by decide +kernel) ⟨Nat.le_of_ble_eq_true rfl, Nat.le_of_ble_eq_true rfl⟩) hK hP hD hS hA (va_recv hK hP (ci := 14) (q0 := 0) rfl rfl) rfl hl.1 rfl (Nat.le_of_ble_eq_true rfl) dX12_boxes_364 ⟨by show 0 + 0 + 0 ≤ 96000 - Y.2.2.2.2.2.2.2.1; omega, by show 0 + 0 + 0 ≤ 10 * (96000 - Y.2.2.2.2.2.2.2.1) + 2 * (1542237 - Y.2.2.2.2.2.2.2.2.1); omega⟩ (fun r_7 u_8 H locs q_6 hP hD hS => ?_)
      obtain ⟨rfl, rfl⟩ := q_6
      have hP : va_P (dC, dI) vwCl (rW g ty Y pa kp ks I tl ac 2 1) H := hP
      have hD : va_D A (rW g ty Y pa kp ks I tl ac 2 1) := hD
      refine W.bound (fun gb1 gb2 => ?_)
      have gb1 : H.size ≤ s.heap.size + (0 + 0 + 0) := gb1
      have gb2 : hsum H ≤ hsum s.heap + (0 + 0 + 0) := gb2
      refine W.widen (k := 96000 - Y.2.2.2.2.2.2.2.1) (n := 10 * (96000 - Y.2.2.2.2.2.2.2.1) + 2 * (1542237 - Y.2.2.2.2.2.2.2.2.1)) (by show 0 + 0 + 0 ≤ 96000 - Y.2.2.2.2.2.2.2.1; omega) (by show 0 + 0 + 0 ≤ 10 * (96000 - Y.2.2.2.2.2.2.2.1) + 2 * (1542237 - Y.2.2.2.2.2.2.2.2.1); omega) ?_
      refine gr_l (wo := fun u : rY × (Nat → Int32) × (Nat → Int32) × (Nat → Int32) × Int32 × Int32 => rW g ty u.1 u.2.1 u.2.2.1 ks I u.2.2.2.1 ac u.2.2.2.2.1 u.2.2.2.2.2) ((Y, pa, kp, tl, 2, 1)) hx hb hr hlk hS hP hD (by show H.size ≤ sz + (Y.2.2.2.2.2.2.2.1 - Y.2.2.2.2.2.2.2.1); rw [← hsz]; omega) (by show hsum H ≤ tot + (10 * (Y.2.2.2.2.2.2.2.1 - Y.2.2.2.2.2.2.2.1) + 2 * (Y.2.2.2.2.2.2.2.2.1 - Y.2.2.2.2.2.2.2.2.1)); rw [← htot]; omega) ?_ dX12_boxes_367
      exact ⟨0, Y, pa, kp, tl, 2, 1, rfl, rfl, (by exact ra_f (f := 2) rel hcnt htl (by decide))⟩
    · show _
      exact absurd f_5 (by assumption)
  · show _
    have hl : lv_has ls 7 [(0, .ref (g 8)), (1, .int 13), (2, .int a0), (3, .int b0), (4, .int c0)] := hl
    refine lv_iload_n hx hb dX12_boxes_0 rfl (lv_at hl 1 rfl) ?_
    refine lv_tableIn (off := 354) (tgt := 355) hx hb dX12_boxes_1 (by decide) (by decide) (by decide) (by decide) ?_
    refine lv_aload_n hx hb dX12_boxes_355 rfl (lv_at hl 0 rfl) ?_
    refine lv_iload_n hx hb dX12_boxes_356 rfl (lv_at hl 2 rfl) ?_
    refine cV_i (C := RX12) (n := 1) (rest := []) hx hb hml hown hg hT (c_X12_place l dC dI g ty s.heap.size Y pa kp ks I tl ac wr tw a0 ) (cv_of hg wM_X12_83 wN_X12_place wL_X12_X12_place wK_X12_place wI_X12 (by decide +kernel) ⟨Nat.le_of_ble_eq_true rfl, Nat.le_of_ble_eq_true rfl⟩) hK hP hD hS hA (va_recv hK hP (ci := 14) (q0 := 0) rfl rfl) rfl hl.1 rfl (Nat.le_of_ble_eq_true rfl) dX12_boxes_357 ⟨by show 0 + 0 ≤ 96000 - Y.2.2.2.2.2.2.2.1; omega, by show 0 + 0 ≤ 10 * (96000 - Y.2.2.2.2.2.2.2.1) + 2 * (1542237 - Y.2.2.2.2.2.2.2.2.1); omega⟩ (fun r_10 u_11 H locs q_9 hP hD hS => ?_)
    rcases q_9 with ⟨rfl, rfl, f_12⟩ | ⟨rfl, rfl, f_13⟩
    · show _
      exact absurd (by assumption) f_12
    · show _
      have hP : va_P (dC, dI) vwCl (rW g ty Y pa kp ks I tl ac wr tw) H := hP
      have hD : va_D A (rW g ty Y pa kp ks I tl ac wr tw) := hD
      refine lv_if_ne (tgt := 368) hx hb dX12_boxes_360 (by decide) (fun _ => ?_) (fun c9 => absurd c9 (by decide)) 
      refine lv_aload_n hx hb dX12_boxes_368 rfl (lv_at hl 0 rfl) ?_
      refine lv_bipush (v := 12) hx hb dX12_boxes_369 (by decide) ?_
      refine lv_iload_n hx hb dX12_boxes_371 rfl (lv_at hl 3 rfl) ?_
      refine lv_iconst (v := 3) hx hb dX12_boxes_372 (by decide) ?_
      refine lv_iand hx hb dX12_boxes_373 ?_
      refine lv_iadd hx hb dX12_boxes_374 ?_
      refine lv_iconst (v := 3) hx hb dX12_boxes_375 (by decide) ?_
      refine gV_i (C := RX12) (n := 2) (rest := []) hx hb hml hown hg hT (c_X12_make l dC dI g ty H.size (hsum H) Y pa kp ks I tl ac wr tw ρ pl P none (12 + (b0 &&& 3)) 3 (by exact rel) (by exact wf) (by exact Or.inl pre2) (by exact ⟨by decide, by decide⟩) (by exact cnt_ok hcnt pre5 pre8)) (cv_of hg wM_X12_128 wN_X12_make wL_X12_X12_make wK_X12_make wI_X12 (by decide +kernel) ⟨Nat.le_of_ble_eq_true rfl, Nat.le_of_ble_eq_true rfl⟩) hK hP hD hS hA (va_recv hK hP (ci := 14) (q0 := 0) rfl rfl) rfl hl.1 rfl (Nat.le_of_ble_eq_true rfl) dX12_boxes_376 ⟨by show 0 + 0 + (96000 - Y.2.2.2.2.2.2.2.1) ≤ 96000 - Y.2.2.2.2.2.2.2.1; omega, by show 0 + 0 + (10 * (96000 - Y.2.2.2.2.2.2.2.1) + 2 * (1542237 - Y.2.2.2.2.2.2.2.2.1)) ≤ 10 * (96000 - Y.2.2.2.2.2.2.2.1) + 2 * (1542237 - Y.2.2.2.2.2.2.2.2.1); omega⟩ (fun r_15 u_16 H locs q_14 hP hD hS => ?_)
      obtain ⟨r'_17, Y'_18, pa'_19, kp'_20, rfl, rfl, f_21⟩ := q_14
      have hP : va_P (dC, dI) vwCl (rW g ty Y'_18 pa'_19 kp'_20 ks I tl ac wr tw) H := hP
      have hD : va_D A (rW g ty Y'_18 pa'_19 kp'_20 ks I tl ac wr tw) := hD
      obtain ⟨ρ9, rel9, hk9, hth9, hn9, hle9, hgr9⟩ := f_21
      have hgr8 := hgr9.1
      have hgr7 := hgr9.2
      have hlc9 := rl_L rel9.1
      have hin9 : vp_in r'_17 Y'_18.2.2.2.2.2.2.2.1 := i32_in (i32_pos rel9.2.1.1).1 (by have := rel9.1.1.2; have := hth9.2; omega)
      refine lv_istore (lv' := [(5, .int r'_17), (0, .ref (g 8)), (1, .int 13), (2, .int a0), (3, .int b0), (4, .int c0)]) hx hb dX12_boxes_379 hl (by decide) rfl (fun ls hl => ?_)
      refine lv_aload_n hx hb dX12_boxes_381 rfl (lv_at hl 1 rfl) ?_
      refine lv_iload hx hb dX12_boxes_382 (lv_at hl 0 rfl) ?_
      refine lv_iconst (v := 0) hx hb dX12_boxes_384 (by decide) ?_
      refine lv_aload_n hx hb dX12_boxes_385 rfl (lv_at hl 1 rfl) ?_
      refine va_get (D := (dC, dI)) (ci := 14) (v := .long ac) (C := RX12) (T := TX12) (N := 21) hx hb hg inG12 hown hK hP 0 rfl rfl 13 (by decide) (hg _ wF_X12_143) (fun _ h9 => h9) rfl dX12_boxes_386 ?_
      refine lv_l2i (v := (ac.toInt32)) hx hb dX12_boxes_389 rfl ?_
      refine lv_i2l (v := ((ac.toInt32).toInt64)) hx hb dX12_boxes_390 rfl ?_
      refine cV_v (C := RX12) (n := 3) (rest := []) hx hb hml hown hg hT (c_X12_put l dC dI g ty H.size Y'_18 pa'_19 kp'_20 ks I tl ac wr tw r'_17 0 ((ac.toInt32).toInt64) (by exact (nb_at rel9 hth9 hn9.2.1).1) (by exact ((nb_at rel9 hth9 hn9.2.1).2.1 _ (i32_in (by decide) (by decide))).1)) (cv_of hg wM_X12_151 wN_X12_put wL_X12_X12_put wK_X12_put wI_X12 (by decide +kernel) ⟨Nat.le_of_ble_eq_true rfl, Nat.le_of_ble_eq_true rfl⟩) hK hP hD hS hA (va_recv hK hP (ci := 14) (q0 := 0) rfl rfl) rfl hl.1 rfl (Nat.le_of_ble_eq_true rfl) dX12_boxes_391 ⟨by show 0 + 0 + (Y'_18.2.2.2.2.2.2.2.1 - Y.2.2.2.2.2.2.2.1) + 0 ≤ 96000 - Y.2.2.2.2.2.2.2.1; omega, by show 0 + 0 + (10 * (Y'_18.2.2.2.2.2.2.2.1 - Y.2.2.2.2.2.2.2.1) + 2 * (Y'_18.2.2.2.2.2.2.2.2.1 - Y.2.2.2.2.2.2.2.2.1)) + 0 ≤ 10 * (96000 - Y.2.2.2.2.2.2.2.1) + 2 * (1542237 - Y.2.2.2.2.2.2.2.2.1); omega⟩ (fun u_24 H locs q_22 hP hD hS => ?_)
      obtain rfl := q_22
      have hP : va_P (dC, dI) vwCl (rW g ty (Y'_18.1, Y'_18.2.1, Y'_18.2.2.1, Y'_18.2.2.2.1, Y'_18.2.2.2.2.1, (vp_updL Y'_18.2.2.2.2.2.1 (Y'_18.2.1 r'_17.toNatClampNeg + 0).toNatClampNeg ((ac.toInt32).toInt64)), Y'_18.2.2.2.2.2.2.1, Y'_18.2.2.2.2.2.2.2.1, Y'_18.2.2.2.2.2.2.2.2.1, Y'_18.2.2.2.2.2.2.2.2.2.1, Y'_18.2.2.2.2.2.2.2.2.2.2) pa'_19 kp'_20 ks I tl ac wr tw) H := hP
      have hD : va_D A (rW g ty (Y'_18.1, Y'_18.2.1, Y'_18.2.2.1, Y'_18.2.2.2.1, Y'_18.2.2.2.2.1, (vp_updL Y'_18.2.2.2.2.2.1 (Y'_18.2.1 r'_17.toNatClampNeg + 0).toNatClampNeg ((ac.toInt32).toInt64)), Y'_18.2.2.2.2.2.2.1, Y'_18.2.2.2.2.2.2.2.1, Y'_18.2.2.2.2.2.2.2.2.1, Y'_18.2.2.2.2.2.2.2.2.2.1, Y'_18.2.2.2.2.2.2.2.2.2.2) pa'_19 kp'_20 ks I tl ac wr tw) := hD
      refine lv_aload_n hx hb dX12_boxes_394 rfl (lv_at hl 1 rfl) ?_
      refine lv_iload hx hb dX12_boxes_395 (lv_at hl 0 rfl) ?_
      refine lv_iconst (v := 2) hx hb dX12_boxes_397 (by decide) ?_
      refine lv_aload_n hx hb dX12_boxes_398 rfl (lv_at hl 1 rfl) ?_
      refine va_get (D := (dC, dI)) (ci := 14) (v := .long ac) (C := RX12) (T := TX12) (N := 21) hx hb hg inG12 hown hK hP 0 rfl rfl 13 (by decide) (hg _ wF_X12_143) (fun _ h9 => h9) rfl dX12_boxes_399 ?_
      refine lv_l2i (v := (ac.toInt32)) hx hb dX12_boxes_402 rfl ?_
      refine lv_i2l (v := ((ac.toInt32).toInt64)) hx hb dX12_boxes_403 rfl ?_
      refine cV_v (C := RX12) (n := 3) (rest := []) hx hb hml hown hg hT (c_X12_put l dC dI g ty H.size (Y'_18.1, Y'_18.2.1, Y'_18.2.2.1, Y'_18.2.2.2.1, Y'_18.2.2.2.2.1, (vp_updL Y'_18.2.2.2.2.2.1 (Y'_18.2.1 r'_17.toNatClampNeg + 0).toNatClampNeg ((ac.toInt32).toInt64)), Y'_18.2.2.2.2.2.2.1, Y'_18.2.2.2.2.2.2.2.1, Y'_18.2.2.2.2.2.2.2.2.1, Y'_18.2.2.2.2.2.2.2.2.2.1, Y'_18.2.2.2.2.2.2.2.2.2.2) pa'_19 kp'_20 ks I tl ac wr tw r'_17 2 ((ac.toInt32).toInt64) (by exact (nb_at rel9 hth9 hn9.2.1).1) (by exact ((nb_at rel9 hth9 hn9.2.1).2.1 _ (i32_in (by decide) (by decide))).1)) (cv_of hg wM_X12_151 wN_X12_put wL_X12_X12_put wK_X12_put wI_X12 (by decide +kernel) ⟨Nat.le_of_ble_eq_true rfl, Nat.le_of_ble_eq_true rfl⟩) hK hP hD hS hA (va_recv hK hP (ci := 14) (q0 := 0) rfl rfl) rfl hl.1 rfl (Nat.le_of_ble_eq_true rfl) dX12_boxes_404 ⟨by show 0 + 0 + (Y'_18.2.2.2.2.2.2.2.1 - Y.2.2.2.2.2.2.2.1) + 0 + 0 ≤ 96000 - Y.2.2.2.2.2.2.2.1; omega, by show 0 + 0 + (10 * (Y'_18.2.2.2.2.2.2.2.1 - Y.2.2.2.2.2.2.2.1) + 2 * (Y'_18.2.2.2.2.2.2.2.2.1 - Y.2.2.2.2.2.2.2.2.1)) + 0 + 0 ≤ 10 * (96000 - Y.2.2.2.2.2.2.2.1) + 2 * (1542237 - Y.2.2.2.2.2.2.2.2.1); omega⟩ (fun u_27 H locs q_25 hP hD hS => ?_)
      obtain rfl := q_25
      have hP : va_P (dC, dI) vwCl (rW g ty (Y'_18.1, Y'_18.2.1, Y'_18.2.2.1, Y'_18.2.2.2.1, Y'_18.2.2.2.2.1, (vp_updL (vp_updL Y'_18.2.2.2.2.2.1 (Y'_18.2.1 r'_17.toNatClampNeg + 0).toNatClampNeg ((ac.toInt32).toInt64)) (Y'_18.2.1 r'_17.toNatClampNeg + 2).toNatClampNeg ((ac.toInt32).toInt64)), Y'_18.2.2.2.2.2.2.1, Y'_18.2.2.2.2.2.2.2.1, Y'_18.2.2.2.2.2.2.2.2.1, Y'_18.2.2.2.2.2.2.2.2.2.1, Y'_18.2.2.2.2.2.2.2.2.2.2) pa'_19 kp'_20 ks I tl ac wr tw) H := hP
      have hD : va_D A (rW g ty (Y'_18.1, Y'_18.2.1, Y'_18.2.2.1, Y'_18.2.2.2.1, Y'_18.2.2.2.2.1, (vp_updL (vp_updL Y'_18.2.2.2.2.2.1 (Y'_18.2.1 r'_17.toNatClampNeg + 0).toNatClampNeg ((ac.toInt32).toInt64)) (Y'_18.2.1 r'_17.toNatClampNeg + 2).toNatClampNeg ((ac.toInt32).toInt64)), Y'_18.2.2.2.2.2.2.1, Y'_18.2.2.2.2.2.2.2.1, Y'_18.2.2.2.2.2.2.2.2.1, Y'_18.2.2.2.2.2.2.2.2.2.1, Y'_18.2.2.2.2.2.2.2.2.2.2) pa'_19 kp'_20 ks I tl ac wr tw) := hD
      refine lv_aload_n hx hb dX12_boxes_407 rfl (lv_at hl 1 rfl) ?_
      refine va_get (D := (dC, dI)) (ci := 14) (v := .ref (g 9)) (C := RX12) (T := TX12) (N := 21) hx hb hg inG12 hown hK hP 0 rfl rfl 8 (by decide) (hg _ wF_X12_34) (fun _ h9 => h9) rfl dX12_boxes_408 ?_
      refine lv_iload_n hx hb dX12_boxes_411 rfl (lv_at hl 3 rfl) ?_
      refine lv_iload hx hb dX12_boxes_412 (lv_at hl 0 rfl) ?_
      refine va_iast hx hb hK hP hD hS 7 0 rfl rfl (by assumption) dX12_boxes_414 (fun H locs hP hD hS => ?_)
      have hP : va_P (dC, dI) vwCl (rW g ty (Y'_18.1, Y'_18.2.1, Y'_18.2.2.1, Y'_18.2.2.2.1, Y'_18.2.2.2.2.1, (vp_updL (vp_updL Y'_18.2.2.2.2.2.1 (Y'_18.2.1 r'_17.toNatClampNeg + 0).toNatClampNeg ((ac.toInt32).toInt64)) (Y'_18.2.1 r'_17.toNatClampNeg + 2).toNatClampNeg ((ac.toInt32).toInt64)), Y'_18.2.2.2.2.2.2.1, Y'_18.2.2.2.2.2.2.2.1, Y'_18.2.2.2.2.2.2.2.2.1, Y'_18.2.2.2.2.2.2.2.2.2.1, Y'_18.2.2.2.2.2.2.2.2.2.2) (upd pa'_19 a0.toNatClampNeg r'_17) kp'_20 ks I tl ac wr tw) H := hP
      have hD : va_D A (rW g ty (Y'_18.1, Y'_18.2.1, Y'_18.2.2.1, Y'_18.2.2.2.1, Y'_18.2.2.2.2.1, (vp_updL (vp_updL Y'_18.2.2.2.2.2.1 (Y'_18.2.1 r'_17.toNatClampNeg + 0).toNatClampNeg ((ac.toInt32).toInt64)) (Y'_18.2.1 r'_17.toNatClampNeg + 2).toNatClampNeg ((ac.toInt32).toInt64)), Y'_18.2.2.2.2.2.2.1, Y'_18.2.2.2.2.2.2.2.1, Y'_18.2.2.2.2.2.2.2.2.1, Y'_18.2.2.2.2.2.2.2.2.2.1, Y'_18.2.2.2.2.2.2.2.2.2.2) (upd pa'_19 a0.toNatClampNeg r'_17) kp'_20 ks I tl ac wr tw) := hD
      refine lv_aload_n hx hb dX12_boxes_415 rfl (lv_at hl 1 rfl) ?_
      refine va_get (D := (dC, dI)) (ci := 14) (v := .ref (g 14)) (C := RX12) (T := TX12) (N := 21) hx hb hg inG12 hown hK hP 0 rfl rfl 17 (by decide) (hg _ wF_X12_49) (fun _ h9 => h9) rfl dX12_boxes_416 ?_
      refine lv_iconst (v := 5) hx hb dX12_boxes_419 (by decide) ?_
      refine lv_dup2_11 hx hb dX12_boxes_420 rfl rfl ?_
      refine va_iald hx hb hK hP 12 0 rfl rfl (by exact i32_in (by decide) (by decide)) dX12_boxes_421 ?_
      refine lv_iconst (v := 1) hx hb dX12_boxes_422 (by decide) ?_
      refine lv_iadd hx hb dX12_boxes_423 ?_
      refine va_iast hx hb hK hP hD hS 12 0 rfl rfl (by exact i32_in (by decide) (by decide)) dX12_boxes_424 (fun H locs hP hD hS => ?_)
      have hP : va_P (dC, dI) vwCl (rW g ty (Y'_18.1, Y'_18.2.1, Y'_18.2.2.1, Y'_18.2.2.2.1, Y'_18.2.2.2.2.1, (vp_updL (vp_updL Y'_18.2.2.2.2.2.1 (Y'_18.2.1 r'_17.toNatClampNeg + 0).toNatClampNeg ((ac.toInt32).toInt64)) (Y'_18.2.1 r'_17.toNatClampNeg + 2).toNatClampNeg ((ac.toInt32).toInt64)), Y'_18.2.2.2.2.2.2.1, Y'_18.2.2.2.2.2.2.2.1, Y'_18.2.2.2.2.2.2.2.2.1, Y'_18.2.2.2.2.2.2.2.2.2.1, Y'_18.2.2.2.2.2.2.2.2.2.2) (upd pa'_19 a0.toNatClampNeg r'_17) kp'_20 ks I (upd tl 5 ((tl 5) + 1)) ac wr tw) H := hP
      have hD : va_D A (rW g ty (Y'_18.1, Y'_18.2.1, Y'_18.2.2.1, Y'_18.2.2.2.1, Y'_18.2.2.2.2.1, (vp_updL (vp_updL Y'_18.2.2.2.2.2.1 (Y'_18.2.1 r'_17.toNatClampNeg + 0).toNatClampNeg ((ac.toInt32).toInt64)) (Y'_18.2.1 r'_17.toNatClampNeg + 2).toNatClampNeg ((ac.toInt32).toInt64)), Y'_18.2.2.2.2.2.2.1, Y'_18.2.2.2.2.2.2.2.1, Y'_18.2.2.2.2.2.2.2.2.1, Y'_18.2.2.2.2.2.2.2.2.2.1, Y'_18.2.2.2.2.2.2.2.2.2.2) (upd pa'_19 a0.toNatClampNeg r'_17) kp'_20 ks I (upd tl 5 ((tl 5) + 1)) ac wr tw) := hD
      refine lv_lconst (v := 0) hx hb dX12_boxes_425 (by decide) ?_
      refine W.bound (fun gb1 gb2 => ?_)
      have gb1 : H.size ≤ s.heap.size + (0 + 0 + (Y'_18.2.2.2.2.2.2.2.1 - Y.2.2.2.2.2.2.2.1) + 0 + 0) := gb1
      have gb2 : hsum H ≤ hsum s.heap + (0 + 0 + (10 * (Y'_18.2.2.2.2.2.2.2.1 - Y.2.2.2.2.2.2.2.1) + 2 * (Y'_18.2.2.2.2.2.2.2.2.1 - Y.2.2.2.2.2.2.2.2.1)) + 0 + 0) := gb2
      refine W.widen (k := 96000 - Y.2.2.2.2.2.2.2.1) (n := 10 * (96000 - Y.2.2.2.2.2.2.2.1) + 2 * (1542237 - Y.2.2.2.2.2.2.2.2.1)) (by show 0 + 0 + (Y'_18.2.2.2.2.2.2.2.1 - Y.2.2.2.2.2.2.2.1) + 0 + 0 ≤ 96000 - Y.2.2.2.2.2.2.2.1; omega) (by show 0 + 0 + (10 * (Y'_18.2.2.2.2.2.2.2.1 - Y.2.2.2.2.2.2.2.1) + 2 * (Y'_18.2.2.2.2.2.2.2.2.1 - Y.2.2.2.2.2.2.2.2.1)) + 0 + 0 ≤ 10 * (96000 - Y.2.2.2.2.2.2.2.1) + 2 * (1542237 - Y.2.2.2.2.2.2.2.2.1); omega) ?_
      refine gr_l (wo := fun u : rY × (Nat → Int32) × (Nat → Int32) × (Nat → Int32) × Int32 × Int32 => rW g ty u.1 u.2.1 u.2.2.1 ks I u.2.2.2.1 ac u.2.2.2.2.1 u.2.2.2.2.2) (((Y'_18.1, Y'_18.2.1, Y'_18.2.2.1, Y'_18.2.2.2.1, Y'_18.2.2.2.2.1, (vp_updL (vp_updL Y'_18.2.2.2.2.2.1 (Y'_18.2.1 r'_17.toNatClampNeg + 0).toNatClampNeg ((ac.toInt32).toInt64)) (Y'_18.2.1 r'_17.toNatClampNeg + 2).toNatClampNeg ((ac.toInt32).toInt64)), Y'_18.2.2.2.2.2.2.1, Y'_18.2.2.2.2.2.2.2.1, Y'_18.2.2.2.2.2.2.2.2.1, Y'_18.2.2.2.2.2.2.2.2.2.1, Y'_18.2.2.2.2.2.2.2.2.2.2), (upd pa'_19 a0.toNatClampNeg r'_17), kp'_20, (upd tl 5 ((tl 5) + 1)), wr, tw)) hx hb hr hlk hS hP hD (by show H.size ≤ sz + (Y'_18.2.2.2.2.2.2.2.1 - Y.2.2.2.2.2.2.2.1); rw [← hsz]; omega) (by show hsum H ≤ tot + (10 * (Y'_18.2.2.2.2.2.2.2.1 - Y.2.2.2.2.2.2.2.1) + 2 * (Y'_18.2.2.2.2.2.2.2.2.1 - Y.2.2.2.2.2.2.2.2.1)); rw [← htot]; omega) ?_ dX12_boxes_426
      exact ⟨0, (Y'_18.1, Y'_18.2.1, Y'_18.2.2.1, Y'_18.2.2.2.1, Y'_18.2.2.2.2.1, (vp_updL (vp_updL Y'_18.2.2.2.2.2.1 (Y'_18.2.1 r'_17.toNatClampNeg + 0).toNatClampNeg ((ac.toInt32).toInt64)) (Y'_18.2.1 r'_17.toNatClampNeg + 2).toNatClampNeg ((ac.toInt32).toInt64)), Y'_18.2.2.2.2.2.2.1, Y'_18.2.2.2.2.2.2.2.1, Y'_18.2.2.2.2.2.2.2.2.1, Y'_18.2.2.2.2.2.2.2.2.2.1, Y'_18.2.2.2.2.2.2.2.2.2.2), (upd pa'_19 a0.toNatClampNeg r'_17), kp'_20, (upd tl 5 ((tl 5) + 1)), wr, tw, rfl, rfl, (by subst pre6; have hs9 : Y'_18.1 r'_17.toNatClampNeg = rSt 2 ac.toInt32 := hn9.1.trans (by rw [g4]; rfl); have hb9 := nb_box (q := q) (k := 2) (v := ac.toInt32) (w := 0) wf rfl rel9 hth9 ⟨hs9, hn9.2.1, hn9.2.2⟩ (by decide) (by intro h9; first | rfl | exact absurd h9 (by decide)) rfl; exact ra_mk wf hcnt pre5 pre8 htl hb9.1 hth9 hle9 (by decide) hgr9 (by assumption) g5 (agr_pN g5) hb9.2 rfl)⟩
  · show _
    have hl : lv_has ls 7 [(0, .ref (g 8)), (1, .int 13), (2, .int a0), (3, .int b0), (4, .int c0)] := hl
    refine lv_iload_n hx hb dX12_boxes_0 rfl (lv_at hl 1 rfl) ?_
    refine lv_tableIn (off := 354) (tgt := 355) hx hb dX12_boxes_1 (by decide) (by decide) (by decide) (by decide) ?_
    refine lv_aload_n hx hb dX12_boxes_355 rfl (lv_at hl 0 rfl) ?_
    refine lv_iload_n hx hb dX12_boxes_356 rfl (lv_at hl 2 rfl) ?_
    refine cV_i (C := RX12) (n := 1) (rest := []) hx hb hml hown hg hT (c_X12_place l dC dI g ty s.heap.size Y pa kp ks I tl ac wr tw a0 ) (cv_of hg wM_X12_83 wN_X12_place wL_X12_X12_place wK_X12_place wI_X12 (by decide +kernel) ⟨Nat.le_of_ble_eq_true rfl, Nat.le_of_ble_eq_true rfl⟩) hK hP hD hS hA (va_recv hK hP (ci := 14) (q0 := 0) rfl rfl) rfl hl.1 rfl (Nat.le_of_ble_eq_true rfl) dX12_boxes_357 ⟨by show 0 + 0 ≤ 96000 - Y.2.2.2.2.2.2.2.1; omega, by show 0 + 0 ≤ 10 * (96000 - Y.2.2.2.2.2.2.2.1) + 2 * (1542237 - Y.2.2.2.2.2.2.2.2.1); omega⟩ (fun r_29 u_30 H locs q_28 hP hD hS => ?_)
    rcases q_28 with ⟨rfl, rfl, f_31⟩ | ⟨rfl, rfl, f_32⟩
    · show _
      exact absurd (by assumption) f_31
    · show _
      have hP : va_P (dC, dI) vwCl (rW g ty Y pa kp ks I tl ac wr tw) H := hP
      have hD : va_D A (rW g ty Y pa kp ks I tl ac wr tw) := hD
      refine lv_if_ne (tgt := 368) hx hb dX12_boxes_360 (by decide) (fun _ => ?_) (fun c9 => absurd c9 (by decide)) 
      refine lv_aload_n hx hb dX12_boxes_368 rfl (lv_at hl 0 rfl) ?_
      refine lv_bipush (v := 12) hx hb dX12_boxes_369 (by decide) ?_
      refine lv_iload_n hx hb dX12_boxes_371 rfl (lv_at hl 3 rfl) ?_
      refine lv_iconst (v := 3) hx hb dX12_boxes_372 (by decide) ?_
      refine lv_iand hx hb dX12_boxes_373 ?_
      refine lv_iadd hx hb dX12_boxes_374 ?_
      refine lv_iconst (v := 3) hx hb dX12_boxes_375 (by decide) ?_
      refine gV_i (C := RX12) (n := 2) (rest := []) hx hb hml hown hg hT (c_X12_make l dC dI g ty H.size (hsum H) Y pa kp ks I tl ac wr tw ρ pl P none (12 + (b0 &&& 3)) 3 (by exact rel) (by exact wf) (by exact Or.inl pre2) (by exact ⟨by decide, by decide⟩) (by exact cnt_ok hcnt pre5 pre8)) (cv_of hg wM_X12_128 wN_X12_make wL_X12_X12_make wK_X12_make wI_X12 (by decide +kernel) ⟨Nat.le_of_ble_eq_true rfl, Nat.le_of_ble_eq_true rfl⟩) hK hP hD hS hA (va_recv hK hP (ci := 14) (q0 := 0) rfl rfl) rfl hl.1 rfl (Nat.le_of_ble_eq_true rfl) dX12_boxes_376 ⟨by show 0 + 0 + (96000 - Y.2.2.2.2.2.2.2.1) ≤ 96000 - Y.2.2.2.2.2.2.2.1; omega, by show 0 + 0 + (10 * (96000 - Y.2.2.2.2.2.2.2.1) + 2 * (1542237 - Y.2.2.2.2.2.2.2.2.1)) ≤ 10 * (96000 - Y.2.2.2.2.2.2.2.1) + 2 * (1542237 - Y.2.2.2.2.2.2.2.2.1); omega⟩ (fun r_34 u_35 H locs q_33 hP hD hS => ?_)
      obtain ⟨r'_36, Y'_37, pa'_38, kp'_39, rfl, rfl, f_40⟩ := q_33
      have hP : va_P (dC, dI) vwCl (rW g ty Y'_37 pa'_38 kp'_39 ks I tl ac wr tw) H := hP
      have hD : va_D A (rW g ty Y'_37 pa'_38 kp'_39 ks I tl ac wr tw) := hD
      obtain ⟨ρ9, rel9, hk9, hth9, hn9, hle9, hgr9⟩ := f_40
      have hgr8 := hgr9.1
      have hgr7 := hgr9.2
      have hlc9 := rl_L rel9.1
      have hin9 : vp_in r'_36 Y'_37.2.2.2.2.2.2.2.1 := i32_in (i32_pos rel9.2.1.1).1 (by have := rel9.1.1.2; have := hth9.2; omega)
      refine lv_istore (lv' := [(5, .int r'_36), (0, .ref (g 8)), (1, .int 13), (2, .int a0), (3, .int b0), (4, .int c0)]) hx hb dX12_boxes_379 hl (by decide) rfl (fun ls hl => ?_)
      refine lv_aload_n hx hb dX12_boxes_381 rfl (lv_at hl 1 rfl) ?_
      refine lv_iload hx hb dX12_boxes_382 (lv_at hl 0 rfl) ?_
      refine lv_iconst (v := 0) hx hb dX12_boxes_384 (by decide) ?_
      refine lv_aload_n hx hb dX12_boxes_385 rfl (lv_at hl 1 rfl) ?_
      refine va_get (D := (dC, dI)) (ci := 14) (v := .long ac) (C := RX12) (T := TX12) (N := 21) hx hb hg inG12 hown hK hP 0 rfl rfl 13 (by decide) (hg _ wF_X12_143) (fun _ h9 => h9) rfl dX12_boxes_386 ?_
      refine lv_l2i (v := (ac.toInt32)) hx hb dX12_boxes_389 rfl ?_
      refine lv_i2l (v := ((ac.toInt32).toInt64)) hx hb dX12_boxes_390 rfl ?_
      refine cV_v (C := RX12) (n := 3) (rest := []) hx hb hml hown hg hT (c_X12_put l dC dI g ty H.size Y'_37 pa'_38 kp'_39 ks I tl ac wr tw r'_36 0 ((ac.toInt32).toInt64) (by exact (nb_at rel9 hth9 hn9.2.1).1) (by exact ((nb_at rel9 hth9 hn9.2.1).2.1 _ (i32_in (by decide) (by decide))).1)) (cv_of hg wM_X12_151 wN_X12_put wL_X12_X12_put wK_X12_put wI_X12 (by decide +kernel) ⟨Nat.le_of_ble_eq_true rfl, Nat.le_of_ble_eq_true rfl⟩) hK hP hD hS hA (va_recv hK hP (ci := 14) (q0 := 0) rfl rfl) rfl hl.1 rfl (Nat.le_of_ble_eq_true rfl) dX12_boxes_391 ⟨by show 0 + 0 + (Y'_37.2.2.2.2.2.2.2.1 - Y.2.2.2.2.2.2.2.1) + 0 ≤ 96000 - Y.2.2.2.2.2.2.2.1; omega, by show 0 + 0 + (10 * (Y'_37.2.2.2.2.2.2.2.1 - Y.2.2.2.2.2.2.2.1) + 2 * (Y'_37.2.2.2.2.2.2.2.2.1 - Y.2.2.2.2.2.2.2.2.1)) + 0 ≤ 10 * (96000 - Y.2.2.2.2.2.2.2.1) + 2 * (1542237 - Y.2.2.2.2.2.2.2.2.1); omega⟩ (fun u_43 H locs q_41 hP hD hS => ?_)
      obtain rfl := q_41
      have hP : va_P (dC, dI) vwCl (rW g ty (Y'_37.1, Y'_37.2.1, Y'_37.2.2.1, Y'_37.2.2.2.1, Y'_37.2.2.2.2.1, (vp_updL Y'_37.2.2.2.2.2.1 (Y'_37.2.1 r'_36.toNatClampNeg + 0).toNatClampNeg ((ac.toInt32).toInt64)), Y'_37.2.2.2.2.2.2.1, Y'_37.2.2.2.2.2.2.2.1, Y'_37.2.2.2.2.2.2.2.2.1, Y'_37.2.2.2.2.2.2.2.2.2.1, Y'_37.2.2.2.2.2.2.2.2.2.2) pa'_38 kp'_39 ks I tl ac wr tw) H := hP
      have hD : va_D A (rW g ty (Y'_37.1, Y'_37.2.1, Y'_37.2.2.1, Y'_37.2.2.2.1, Y'_37.2.2.2.2.1, (vp_updL Y'_37.2.2.2.2.2.1 (Y'_37.2.1 r'_36.toNatClampNeg + 0).toNatClampNeg ((ac.toInt32).toInt64)), Y'_37.2.2.2.2.2.2.1, Y'_37.2.2.2.2.2.2.2.1, Y'_37.2.2.2.2.2.2.2.2.1, Y'_37.2.2.2.2.2.2.2.2.2.1, Y'_37.2.2.2.2.2.2.2.2.2.2) pa'_38 kp'_39 ks I tl ac wr tw) := hD
      refine lv_aload_n hx hb dX12_boxes_394 rfl (lv_at hl 1 rfl) ?_
      refine lv_iload hx hb dX12_boxes_395 (lv_at hl 0 rfl) ?_
      refine lv_iconst (v := 2) hx hb dX12_boxes_397 (by decide) ?_
      refine lv_aload_n hx hb dX12_boxes_398 rfl (lv_at hl 1 rfl) ?_
      refine va_get (D := (dC, dI)) (ci := 14) (v := .long ac) (C := RX12) (T := TX12) (N := 21) hx hb hg inG12 hown hK hP 0 rfl rfl 13 (by decide) (hg _ wF_X12_143) (fun _ h9 => h9) rfl dX12_boxes_399 ?_
      refine lv_l2i (v := (ac.toInt32)) hx hb dX12_boxes_402 rfl ?_
      refine lv_i2l (v := ((ac.toInt32).toInt64)) hx hb dX12_boxes_403 rfl ?_
      refine cV_v (C := RX12) (n := 3) (rest := []) hx hb hml hown hg hT (c_X12_put l dC dI g ty H.size (Y'_37.1, Y'_37.2.1, Y'_37.2.2.1, Y'_37.2.2.2.1, Y'_37.2.2.2.2.1, (vp_updL Y'_37.2.2.2.2.2.1 (Y'_37.2.1 r'_36.toNatClampNeg + 0).toNatClampNeg ((ac.toInt32).toInt64)), Y'_37.2.2.2.2.2.2.1, Y'_37.2.2.2.2.2.2.2.1, Y'_37.2.2.2.2.2.2.2.2.1, Y'_37.2.2.2.2.2.2.2.2.2.1, Y'_37.2.2.2.2.2.2.2.2.2.2) pa'_38 kp'_39 ks I tl ac wr tw r'_36 2 ((ac.toInt32).toInt64) (by exact (nb_at rel9 hth9 hn9.2.1).1) (by exact ((nb_at rel9 hth9 hn9.2.1).2.1 _ (i32_in (by decide) (by decide))).1)) (cv_of hg wM_X12_151 wN_X12_put wL_X12_X12_put wK_X12_put wI_X12 (by decide +kernel) ⟨Nat.le_of_ble_eq_true rfl, Nat.le_of_ble_eq_true rfl⟩) hK hP hD hS hA (va_recv hK hP (ci := 14) (q0 := 0) rfl rfl) rfl hl.1 rfl (Nat.le_of_ble_eq_true rfl) dX12_boxes_404 ⟨by show 0 + 0 + (Y'_37.2.2.2.2.2.2.2.1 - Y.2.2.2.2.2.2.2.1) + 0 + 0 ≤ 96000 - Y.2.2.2.2.2.2.2.1; omega, by show 0 + 0 + (10 * (Y'_37.2.2.2.2.2.2.2.1 - Y.2.2.2.2.2.2.2.1) + 2 * (Y'_37.2.2.2.2.2.2.2.2.1 - Y.2.2.2.2.2.2.2.2.1)) + 0 + 0 ≤ 10 * (96000 - Y.2.2.2.2.2.2.2.1) + 2 * (1542237 - Y.2.2.2.2.2.2.2.2.1); omega⟩ (fun u_46 H locs q_44 hP hD hS => ?_)
      obtain rfl := q_44
      have hP : va_P (dC, dI) vwCl (rW g ty (Y'_37.1, Y'_37.2.1, Y'_37.2.2.1, Y'_37.2.2.2.1, Y'_37.2.2.2.2.1, (vp_updL (vp_updL Y'_37.2.2.2.2.2.1 (Y'_37.2.1 r'_36.toNatClampNeg + 0).toNatClampNeg ((ac.toInt32).toInt64)) (Y'_37.2.1 r'_36.toNatClampNeg + 2).toNatClampNeg ((ac.toInt32).toInt64)), Y'_37.2.2.2.2.2.2.1, Y'_37.2.2.2.2.2.2.2.1, Y'_37.2.2.2.2.2.2.2.2.1, Y'_37.2.2.2.2.2.2.2.2.2.1, Y'_37.2.2.2.2.2.2.2.2.2.2) pa'_38 kp'_39 ks I tl ac wr tw) H := hP
      have hD : va_D A (rW g ty (Y'_37.1, Y'_37.2.1, Y'_37.2.2.1, Y'_37.2.2.2.1, Y'_37.2.2.2.2.1, (vp_updL (vp_updL Y'_37.2.2.2.2.2.1 (Y'_37.2.1 r'_36.toNatClampNeg + 0).toNatClampNeg ((ac.toInt32).toInt64)) (Y'_37.2.1 r'_36.toNatClampNeg + 2).toNatClampNeg ((ac.toInt32).toInt64)), Y'_37.2.2.2.2.2.2.1, Y'_37.2.2.2.2.2.2.2.1, Y'_37.2.2.2.2.2.2.2.2.1, Y'_37.2.2.2.2.2.2.2.2.2.1, Y'_37.2.2.2.2.2.2.2.2.2.2) pa'_38 kp'_39 ks I tl ac wr tw) := hD
      refine lv_aload_n hx hb dX12_boxes_407 rfl (lv_at hl 1 rfl) ?_
      refine va_get (D := (dC, dI)) (ci := 14) (v := .ref (g 9)) (C := RX12) (T := TX12) (N := 21) hx hb hg inG12 hown hK hP 0 rfl rfl 8 (by decide) (hg _ wF_X12_34) (fun _ h9 => h9) rfl dX12_boxes_408 ?_
      refine lv_iload_n hx hb dX12_boxes_411 rfl (lv_at hl 3 rfl) ?_
      refine lv_iload hx hb dX12_boxes_412 (lv_at hl 0 rfl) ?_
      refine va_iast hx hb hK hP hD hS 7 0 rfl rfl (by assumption) dX12_boxes_414 (fun H locs hP hD hS => ?_)
      have hP : va_P (dC, dI) vwCl (rW g ty (Y'_37.1, Y'_37.2.1, Y'_37.2.2.1, Y'_37.2.2.2.1, Y'_37.2.2.2.2.1, (vp_updL (vp_updL Y'_37.2.2.2.2.2.1 (Y'_37.2.1 r'_36.toNatClampNeg + 0).toNatClampNeg ((ac.toInt32).toInt64)) (Y'_37.2.1 r'_36.toNatClampNeg + 2).toNatClampNeg ((ac.toInt32).toInt64)), Y'_37.2.2.2.2.2.2.1, Y'_37.2.2.2.2.2.2.2.1, Y'_37.2.2.2.2.2.2.2.2.1, Y'_37.2.2.2.2.2.2.2.2.2.1, Y'_37.2.2.2.2.2.2.2.2.2.2) (upd pa'_38 a0.toNatClampNeg r'_36) kp'_39 ks I tl ac wr tw) H := hP
      have hD : va_D A (rW g ty (Y'_37.1, Y'_37.2.1, Y'_37.2.2.1, Y'_37.2.2.2.1, Y'_37.2.2.2.2.1, (vp_updL (vp_updL Y'_37.2.2.2.2.2.1 (Y'_37.2.1 r'_36.toNatClampNeg + 0).toNatClampNeg ((ac.toInt32).toInt64)) (Y'_37.2.1 r'_36.toNatClampNeg + 2).toNatClampNeg ((ac.toInt32).toInt64)), Y'_37.2.2.2.2.2.2.1, Y'_37.2.2.2.2.2.2.2.1, Y'_37.2.2.2.2.2.2.2.2.1, Y'_37.2.2.2.2.2.2.2.2.2.1, Y'_37.2.2.2.2.2.2.2.2.2.2) (upd pa'_38 a0.toNatClampNeg r'_36) kp'_39 ks I tl ac wr tw) := hD
      refine lv_aload_n hx hb dX12_boxes_415 rfl (lv_at hl 1 rfl) ?_
      refine va_get (D := (dC, dI)) (ci := 14) (v := .ref (g 14)) (C := RX12) (T := TX12) (N := 21) hx hb hg inG12 hown hK hP 0 rfl rfl 17 (by decide) (hg _ wF_X12_49) (fun _ h9 => h9) rfl dX12_boxes_416 ?_
      refine lv_iconst (v := 5) hx hb dX12_boxes_419 (by decide) ?_
      refine lv_dup2_11 hx hb dX12_boxes_420 rfl rfl ?_
      refine va_iald hx hb hK hP 12 0 rfl rfl (by exact i32_in (by decide) (by decide)) dX12_boxes_421 ?_
      refine lv_iconst (v := 1) hx hb dX12_boxes_422 (by decide) ?_
      refine lv_iadd hx hb dX12_boxes_423 ?_
      refine va_iast hx hb hK hP hD hS 12 0 rfl rfl (by exact i32_in (by decide) (by decide)) dX12_boxes_424 (fun H locs hP hD hS => ?_)
      have hP : va_P (dC, dI) vwCl (rW g ty (Y'_37.1, Y'_37.2.1, Y'_37.2.2.1, Y'_37.2.2.2.1, Y'_37.2.2.2.2.1, (vp_updL (vp_updL Y'_37.2.2.2.2.2.1 (Y'_37.2.1 r'_36.toNatClampNeg + 0).toNatClampNeg ((ac.toInt32).toInt64)) (Y'_37.2.1 r'_36.toNatClampNeg + 2).toNatClampNeg ((ac.toInt32).toInt64)), Y'_37.2.2.2.2.2.2.1, Y'_37.2.2.2.2.2.2.2.1, Y'_37.2.2.2.2.2.2.2.2.1, Y'_37.2.2.2.2.2.2.2.2.2.1, Y'_37.2.2.2.2.2.2.2.2.2.2) (upd pa'_38 a0.toNatClampNeg r'_36) kp'_39 ks I (upd tl 5 ((tl 5) + 1)) ac wr tw) H := hP
      have hD : va_D A (rW g ty (Y'_37.1, Y'_37.2.1, Y'_37.2.2.1, Y'_37.2.2.2.1, Y'_37.2.2.2.2.1, (vp_updL (vp_updL Y'_37.2.2.2.2.2.1 (Y'_37.2.1 r'_36.toNatClampNeg + 0).toNatClampNeg ((ac.toInt32).toInt64)) (Y'_37.2.1 r'_36.toNatClampNeg + 2).toNatClampNeg ((ac.toInt32).toInt64)), Y'_37.2.2.2.2.2.2.1, Y'_37.2.2.2.2.2.2.2.1, Y'_37.2.2.2.2.2.2.2.2.1, Y'_37.2.2.2.2.2.2.2.2.2.1, Y'_37.2.2.2.2.2.2.2.2.2.2) (upd pa'_38 a0.toNatClampNeg r'_36) kp'_39 ks I (upd tl 5 ((tl 5) + 1)) ac wr tw) := hD
      refine lv_lconst (v := 0) hx hb dX12_boxes_425 (by decide) ?_
      refine W.bound (fun gb1 gb2 => ?_)
      have gb1 : H.size ≤ s.heap.size + (0 + 0 + (Y'_37.2.2.2.2.2.2.2.1 - Y.2.2.2.2.2.2.2.1) + 0 + 0) := gb1
      have gb2 : hsum H ≤ hsum s.heap + (0 + 0 + (10 * (Y'_37.2.2.2.2.2.2.2.1 - Y.2.2.2.2.2.2.2.1) + 2 * (Y'_37.2.2.2.2.2.2.2.2.1 - Y.2.2.2.2.2.2.2.2.1)) + 0 + 0) := gb2
      refine W.widen (k := 96000 - Y.2.2.2.2.2.2.2.1) (n := 10 * (96000 - Y.2.2.2.2.2.2.2.1) + 2 * (1542237 - Y.2.2.2.2.2.2.2.2.1)) (by show 0 + 0 + (Y'_37.2.2.2.2.2.2.2.1 - Y.2.2.2.2.2.2.2.1) + 0 + 0 ≤ 96000 - Y.2.2.2.2.2.2.2.1; omega) (by show 0 + 0 + (10 * (Y'_37.2.2.2.2.2.2.2.1 - Y.2.2.2.2.2.2.2.1) + 2 * (Y'_37.2.2.2.2.2.2.2.2.1 - Y.2.2.2.2.2.2.2.2.1)) + 0 + 0 ≤ 10 * (96000 - Y.2.2.2.2.2.2.2.1) + 2 * (1542237 - Y.2.2.2.2.2.2.2.2.1); omega) ?_
      refine gr_l (wo := fun u : rY × (Nat → Int32) × (Nat → Int32) × (Nat → Int32) × Int32 × Int32 => rW g ty u.1 u.2.1 u.2.2.1 ks I u.2.2.2.1 ac u.2.2.2.2.1 u.2.2.2.2.2) (((Y'_37.1, Y'_37.2.1, Y'_37.2.2.1, Y'_37.2.2.2.1, Y'_37.2.2.2.2.1, (vp_updL (vp_updL Y'_37.2.2.2.2.2.1 (Y'_37.2.1 r'_36.toNatClampNeg + 0).toNatClampNeg ((ac.toInt32).toInt64)) (Y'_37.2.1 r'_36.toNatClampNeg + 2).toNatClampNeg ((ac.toInt32).toInt64)), Y'_37.2.2.2.2.2.2.1, Y'_37.2.2.2.2.2.2.2.1, Y'_37.2.2.2.2.2.2.2.2.1, Y'_37.2.2.2.2.2.2.2.2.2.1, Y'_37.2.2.2.2.2.2.2.2.2.2), (upd pa'_38 a0.toNatClampNeg r'_36), kp'_39, (upd tl 5 ((tl 5) + 1)), wr, tw)) hx hb hr hlk hS hP hD (by show H.size ≤ sz + (Y'_37.2.2.2.2.2.2.2.1 - Y.2.2.2.2.2.2.2.1); rw [← hsz]; omega) (by show hsum H ≤ tot + (10 * (Y'_37.2.2.2.2.2.2.2.1 - Y.2.2.2.2.2.2.2.1) + 2 * (Y'_37.2.2.2.2.2.2.2.2.1 - Y.2.2.2.2.2.2.2.2.1)); rw [← htot]; omega) ?_ dX12_boxes_426
      exact ⟨0, (Y'_37.1, Y'_37.2.1, Y'_37.2.2.1, Y'_37.2.2.2.1, Y'_37.2.2.2.2.1, (vp_updL (vp_updL Y'_37.2.2.2.2.2.1 (Y'_37.2.1 r'_36.toNatClampNeg + 0).toNatClampNeg ((ac.toInt32).toInt64)) (Y'_37.2.1 r'_36.toNatClampNeg + 2).toNatClampNeg ((ac.toInt32).toInt64)), Y'_37.2.2.2.2.2.2.1, Y'_37.2.2.2.2.2.2.2.1, Y'_37.2.2.2.2.2.2.2.2.1, Y'_37.2.2.2.2.2.2.2.2.2.1, Y'_37.2.2.2.2.2.2.2.2.2.2), (upd pa'_38 a0.toNatClampNeg r'_36), kp'_39, (upd tl 5 ((tl 5) + 1)), wr, tw, rfl, rfl, (by subst pre6; have hs9 : Y'_37.1 r'_36.toNatClampNeg = rSt 1 ac.toInt32 := hn9.1.trans (by rw [g4]; rfl); have hb9 := nb_box (q := q) (k := 1) (v := ac.toInt32) (w := ac.toInt32) wf rfl rel9 hth9 ⟨hs9, hn9.2.1, hn9.2.2⟩ (by decide) (by intro h9; first | rfl | exact absurd h9 (by decide)) rfl; exact ra_mk wf hcnt pre5 pre8 htl hb9.1 hth9 hle9 (by decide) hgr9 (by assumption) g5 (agr_pN g5) hb9.2 rfl)⟩
  · show _
    have hl : lv_has ls 7 [(0, .ref (g 8)), (1, .int 13), (2, .int a0), (3, .int b0), (4, .int c0)] := hl
    refine lv_iload_n hx hb dX12_boxes_0 rfl (lv_at hl 1 rfl) ?_
    refine lv_tableIn (off := 354) (tgt := 355) hx hb dX12_boxes_1 (by decide) (by decide) (by decide) (by decide) ?_
    refine lv_aload_n hx hb dX12_boxes_355 rfl (lv_at hl 0 rfl) ?_
    refine lv_iload_n hx hb dX12_boxes_356 rfl (lv_at hl 2 rfl) ?_
    refine cV_i (C := RX12) (n := 1) (rest := []) hx hb hml hown hg hT (c_X12_place l dC dI g ty s.heap.size Y pa kp ks I tl ac wr tw a0 ) (cv_of hg wM_X12_83 wN_X12_place wL_X12_X12_place wK_X12_place wI_X12 (by decide +kernel) ⟨Nat.le_of_ble_eq_true rfl, Nat.le_of_ble_eq_true rfl⟩) hK hP hD hS hA (va_recv hK hP (ci := 14) (q0 := 0) rfl rfl) rfl hl.1 rfl (Nat.le_of_ble_eq_true rfl) dX12_boxes_357 ⟨by show 0 + 0 ≤ 96000 - Y.2.2.2.2.2.2.2.1; omega, by show 0 + 0 ≤ 10 * (96000 - Y.2.2.2.2.2.2.2.1) + 2 * (1542237 - Y.2.2.2.2.2.2.2.2.1); omega⟩ (fun r_48 u_49 H locs q_47 hP hD hS => ?_)
    rcases q_47 with ⟨rfl, rfl, f_50⟩ | ⟨rfl, rfl, f_51⟩
    · show _
      exact absurd (by assumption) f_50
    · show _
      have hP : va_P (dC, dI) vwCl (rW g ty Y pa kp ks I tl ac wr tw) H := hP
      have hD : va_D A (rW g ty Y pa kp ks I tl ac wr tw) := hD
      refine lv_if_ne (tgt := 368) hx hb dX12_boxes_360 (by decide) (fun _ => ?_) (fun c9 => absurd c9 (by decide)) 
      refine lv_aload_n hx hb dX12_boxes_368 rfl (lv_at hl 0 rfl) ?_
      refine lv_bipush (v := 12) hx hb dX12_boxes_369 (by decide) ?_
      refine lv_iload_n hx hb dX12_boxes_371 rfl (lv_at hl 3 rfl) ?_
      refine lv_iconst (v := 3) hx hb dX12_boxes_372 (by decide) ?_
      refine lv_iand hx hb dX12_boxes_373 ?_
      refine lv_iadd hx hb dX12_boxes_374 ?_
      refine lv_iconst (v := 3) hx hb dX12_boxes_375 (by decide) ?_
      refine gV_i (C := RX12) (n := 2) (rest := []) hx hb hml hown hg hT (c_X12_make l dC dI g ty H.size (hsum H) Y pa kp ks I tl ac wr tw ρ pl P none (12 + (b0 &&& 3)) 3 (by exact rel) (by exact wf) (by exact Or.inl pre2) (by exact ⟨by decide, by decide⟩) (by exact cnt_ok hcnt pre5 pre8)) (cv_of hg wM_X12_128 wN_X12_make wL_X12_X12_make wK_X12_make wI_X12 (by decide +kernel) ⟨Nat.le_of_ble_eq_true rfl, Nat.le_of_ble_eq_true rfl⟩) hK hP hD hS hA (va_recv hK hP (ci := 14) (q0 := 0) rfl rfl) rfl hl.1 rfl (Nat.le_of_ble_eq_true rfl) dX12_boxes_376 ⟨by show 0 + 0 + (96000 - Y.2.2.2.2.2.2.2.1) ≤ 96000 - Y.2.2.2.2.2.2.2.1; omega, by show 0 + 0 + (10 * (96000 - Y.2.2.2.2.2.2.2.1) + 2 * (1542237 - Y.2.2.2.2.2.2.2.2.1)) ≤ 10 * (96000 - Y.2.2.2.2.2.2.2.1) + 2 * (1542237 - Y.2.2.2.2.2.2.2.2.1); omega⟩ (fun r_53 u_54 H locs q_52 hP hD hS => ?_)
      obtain ⟨r'_55, Y'_56, pa'_57, kp'_58, rfl, rfl, f_59⟩ := q_52
      have hP : va_P (dC, dI) vwCl (rW g ty Y'_56 pa'_57 kp'_58 ks I tl ac wr tw) H := hP
      have hD : va_D A (rW g ty Y'_56 pa'_57 kp'_58 ks I tl ac wr tw) := hD
      obtain ⟨ρ9, rel9, hk9, hth9, hn9, hle9, hgr9⟩ := f_59
      have hgr8 := hgr9.1
      have hgr7 := hgr9.2
      have hlc9 := rl_L rel9.1
      have hin9 : vp_in r'_55 Y'_56.2.2.2.2.2.2.2.1 := i32_in (i32_pos rel9.2.1.1).1 (by have := rel9.1.1.2; have := hth9.2; omega)
      refine lv_istore (lv' := [(5, .int r'_55), (0, .ref (g 8)), (1, .int 13), (2, .int a0), (3, .int b0), (4, .int c0)]) hx hb dX12_boxes_379 hl (by decide) rfl (fun ls hl => ?_)
      refine lv_aload_n hx hb dX12_boxes_381 rfl (lv_at hl 1 rfl) ?_
      refine lv_iload hx hb dX12_boxes_382 (lv_at hl 0 rfl) ?_
      refine lv_iconst (v := 0) hx hb dX12_boxes_384 (by decide) ?_
      refine lv_aload_n hx hb dX12_boxes_385 rfl (lv_at hl 1 rfl) ?_
      refine va_get (D := (dC, dI)) (ci := 14) (v := .long ac) (C := RX12) (T := TX12) (N := 21) hx hb hg inG12 hown hK hP 0 rfl rfl 13 (by decide) (hg _ wF_X12_143) (fun _ h9 => h9) rfl dX12_boxes_386 ?_
      refine lv_l2i (v := (ac.toInt32)) hx hb dX12_boxes_389 rfl ?_
      refine lv_i2l (v := ((ac.toInt32).toInt64)) hx hb dX12_boxes_390 rfl ?_
      refine cV_v (C := RX12) (n := 3) (rest := []) hx hb hml hown hg hT (c_X12_put l dC dI g ty H.size Y'_56 pa'_57 kp'_58 ks I tl ac wr tw r'_55 0 ((ac.toInt32).toInt64) (by exact (nb_at rel9 hth9 hn9.2.1).1) (by exact ((nb_at rel9 hth9 hn9.2.1).2.1 _ (i32_in (by decide) (by decide))).1)) (cv_of hg wM_X12_151 wN_X12_put wL_X12_X12_put wK_X12_put wI_X12 (by decide +kernel) ⟨Nat.le_of_ble_eq_true rfl, Nat.le_of_ble_eq_true rfl⟩) hK hP hD hS hA (va_recv hK hP (ci := 14) (q0 := 0) rfl rfl) rfl hl.1 rfl (Nat.le_of_ble_eq_true rfl) dX12_boxes_391 ⟨by show 0 + 0 + (Y'_56.2.2.2.2.2.2.2.1 - Y.2.2.2.2.2.2.2.1) + 0 ≤ 96000 - Y.2.2.2.2.2.2.2.1; omega, by show 0 + 0 + (10 * (Y'_56.2.2.2.2.2.2.2.1 - Y.2.2.2.2.2.2.2.1) + 2 * (Y'_56.2.2.2.2.2.2.2.2.1 - Y.2.2.2.2.2.2.2.2.1)) + 0 ≤ 10 * (96000 - Y.2.2.2.2.2.2.2.1) + 2 * (1542237 - Y.2.2.2.2.2.2.2.2.1); omega⟩ (fun u_62 H locs q_60 hP hD hS => ?_)
      obtain rfl := q_60
      have hP : va_P (dC, dI) vwCl (rW g ty (Y'_56.1, Y'_56.2.1, Y'_56.2.2.1, Y'_56.2.2.2.1, Y'_56.2.2.2.2.1, (vp_updL Y'_56.2.2.2.2.2.1 (Y'_56.2.1 r'_55.toNatClampNeg + 0).toNatClampNeg ((ac.toInt32).toInt64)), Y'_56.2.2.2.2.2.2.1, Y'_56.2.2.2.2.2.2.2.1, Y'_56.2.2.2.2.2.2.2.2.1, Y'_56.2.2.2.2.2.2.2.2.2.1, Y'_56.2.2.2.2.2.2.2.2.2.2) pa'_57 kp'_58 ks I tl ac wr tw) H := hP
      have hD : va_D A (rW g ty (Y'_56.1, Y'_56.2.1, Y'_56.2.2.1, Y'_56.2.2.2.1, Y'_56.2.2.2.2.1, (vp_updL Y'_56.2.2.2.2.2.1 (Y'_56.2.1 r'_55.toNatClampNeg + 0).toNatClampNeg ((ac.toInt32).toInt64)), Y'_56.2.2.2.2.2.2.1, Y'_56.2.2.2.2.2.2.2.1, Y'_56.2.2.2.2.2.2.2.2.1, Y'_56.2.2.2.2.2.2.2.2.2.1, Y'_56.2.2.2.2.2.2.2.2.2.2) pa'_57 kp'_58 ks I tl ac wr tw) := hD
      refine lv_aload_n hx hb dX12_boxes_394 rfl (lv_at hl 1 rfl) ?_
      refine lv_iload hx hb dX12_boxes_395 (lv_at hl 0 rfl) ?_
      refine lv_iconst (v := 2) hx hb dX12_boxes_397 (by decide) ?_
      refine lv_aload_n hx hb dX12_boxes_398 rfl (lv_at hl 1 rfl) ?_
      refine va_get (D := (dC, dI)) (ci := 14) (v := .long ac) (C := RX12) (T := TX12) (N := 21) hx hb hg inG12 hown hK hP 0 rfl rfl 13 (by decide) (hg _ wF_X12_143) (fun _ h9 => h9) rfl dX12_boxes_399 ?_
      refine lv_l2i (v := (ac.toInt32)) hx hb dX12_boxes_402 rfl ?_
      refine lv_i2l (v := ((ac.toInt32).toInt64)) hx hb dX12_boxes_403 rfl ?_
      refine cV_v (C := RX12) (n := 3) (rest := []) hx hb hml hown hg hT (c_X12_put l dC dI g ty H.size (Y'_56.1, Y'_56.2.1, Y'_56.2.2.1, Y'_56.2.2.2.1, Y'_56.2.2.2.2.1, (vp_updL Y'_56.2.2.2.2.2.1 (Y'_56.2.1 r'_55.toNatClampNeg + 0).toNatClampNeg ((ac.toInt32).toInt64)), Y'_56.2.2.2.2.2.2.1, Y'_56.2.2.2.2.2.2.2.1, Y'_56.2.2.2.2.2.2.2.2.1, Y'_56.2.2.2.2.2.2.2.2.2.1, Y'_56.2.2.2.2.2.2.2.2.2.2) pa'_57 kp'_58 ks I tl ac wr tw r'_55 2 ((ac.toInt32).toInt64) (by exact (nb_at rel9 hth9 hn9.2.1).1) (by exact ((nb_at rel9 hth9 hn9.2.1).2.1 _ (i32_in (by decide) (by decide))).1)) (cv_of hg wM_X12_151 wN_X12_put wL_X12_X12_put wK_X12_put wI_X12 (by decide +kernel) ⟨Nat.le_of_ble_eq_true rfl, Nat.le_of_ble_eq_true rfl⟩) hK hP hD hS hA (va_recv hK hP (ci := 14) (q0 := 0) rfl rfl) rfl hl.1 rfl (Nat.le_of_ble_eq_true rfl) dX12_boxes_404 ⟨by show 0 + 0 + (Y'_56.2.2.2.2.2.2.2.1 - Y.2.2.2.2.2.2.2.1) + 0 + 0 ≤ 96000 - Y.2.2.2.2.2.2.2.1; omega, by show 0 + 0 + (10 * (Y'_56.2.2.2.2.2.2.2.1 - Y.2.2.2.2.2.2.2.1) + 2 * (Y'_56.2.2.2.2.2.2.2.2.1 - Y.2.2.2.2.2.2.2.2.1)) + 0 + 0 ≤ 10 * (96000 - Y.2.2.2.2.2.2.2.1) + 2 * (1542237 - Y.2.2.2.2.2.2.2.2.1); omega⟩ (fun u_65 H locs q_63 hP hD hS => ?_)
      obtain rfl := q_63
      have hP : va_P (dC, dI) vwCl (rW g ty (Y'_56.1, Y'_56.2.1, Y'_56.2.2.1, Y'_56.2.2.2.1, Y'_56.2.2.2.2.1, (vp_updL (vp_updL Y'_56.2.2.2.2.2.1 (Y'_56.2.1 r'_55.toNatClampNeg + 0).toNatClampNeg ((ac.toInt32).toInt64)) (Y'_56.2.1 r'_55.toNatClampNeg + 2).toNatClampNeg ((ac.toInt32).toInt64)), Y'_56.2.2.2.2.2.2.1, Y'_56.2.2.2.2.2.2.2.1, Y'_56.2.2.2.2.2.2.2.2.1, Y'_56.2.2.2.2.2.2.2.2.2.1, Y'_56.2.2.2.2.2.2.2.2.2.2) pa'_57 kp'_58 ks I tl ac wr tw) H := hP
      have hD : va_D A (rW g ty (Y'_56.1, Y'_56.2.1, Y'_56.2.2.1, Y'_56.2.2.2.1, Y'_56.2.2.2.2.1, (vp_updL (vp_updL Y'_56.2.2.2.2.2.1 (Y'_56.2.1 r'_55.toNatClampNeg + 0).toNatClampNeg ((ac.toInt32).toInt64)) (Y'_56.2.1 r'_55.toNatClampNeg + 2).toNatClampNeg ((ac.toInt32).toInt64)), Y'_56.2.2.2.2.2.2.1, Y'_56.2.2.2.2.2.2.2.1, Y'_56.2.2.2.2.2.2.2.2.1, Y'_56.2.2.2.2.2.2.2.2.2.1, Y'_56.2.2.2.2.2.2.2.2.2.2) pa'_57 kp'_58 ks I tl ac wr tw) := hD
      refine lv_aload_n hx hb dX12_boxes_407 rfl (lv_at hl 1 rfl) ?_
      refine va_get (D := (dC, dI)) (ci := 14) (v := .ref (g 9)) (C := RX12) (T := TX12) (N := 21) hx hb hg inG12 hown hK hP 0 rfl rfl 8 (by decide) (hg _ wF_X12_34) (fun _ h9 => h9) rfl dX12_boxes_408 ?_
      refine lv_iload_n hx hb dX12_boxes_411 rfl (lv_at hl 3 rfl) ?_
      refine lv_iload hx hb dX12_boxes_412 (lv_at hl 0 rfl) ?_
      refine va_iast hx hb hK hP hD hS 7 0 rfl rfl (by assumption) dX12_boxes_414 (fun H locs hP hD hS => ?_)
      have hP : va_P (dC, dI) vwCl (rW g ty (Y'_56.1, Y'_56.2.1, Y'_56.2.2.1, Y'_56.2.2.2.1, Y'_56.2.2.2.2.1, (vp_updL (vp_updL Y'_56.2.2.2.2.2.1 (Y'_56.2.1 r'_55.toNatClampNeg + 0).toNatClampNeg ((ac.toInt32).toInt64)) (Y'_56.2.1 r'_55.toNatClampNeg + 2).toNatClampNeg ((ac.toInt32).toInt64)), Y'_56.2.2.2.2.2.2.1, Y'_56.2.2.2.2.2.2.2.1, Y'_56.2.2.2.2.2.2.2.2.1, Y'_56.2.2.2.2.2.2.2.2.2.1, Y'_56.2.2.2.2.2.2.2.2.2.2) (upd pa'_57 a0.toNatClampNeg r'_55) kp'_58 ks I tl ac wr tw) H := hP
      have hD : va_D A (rW g ty (Y'_56.1, Y'_56.2.1, Y'_56.2.2.1, Y'_56.2.2.2.1, Y'_56.2.2.2.2.1, (vp_updL (vp_updL Y'_56.2.2.2.2.2.1 (Y'_56.2.1 r'_55.toNatClampNeg + 0).toNatClampNeg ((ac.toInt32).toInt64)) (Y'_56.2.1 r'_55.toNatClampNeg + 2).toNatClampNeg ((ac.toInt32).toInt64)), Y'_56.2.2.2.2.2.2.1, Y'_56.2.2.2.2.2.2.2.1, Y'_56.2.2.2.2.2.2.2.2.1, Y'_56.2.2.2.2.2.2.2.2.2.1, Y'_56.2.2.2.2.2.2.2.2.2.2) (upd pa'_57 a0.toNatClampNeg r'_55) kp'_58 ks I tl ac wr tw) := hD
      refine lv_aload_n hx hb dX12_boxes_415 rfl (lv_at hl 1 rfl) ?_
      refine va_get (D := (dC, dI)) (ci := 14) (v := .ref (g 14)) (C := RX12) (T := TX12) (N := 21) hx hb hg inG12 hown hK hP 0 rfl rfl 17 (by decide) (hg _ wF_X12_49) (fun _ h9 => h9) rfl dX12_boxes_416 ?_
      refine lv_iconst (v := 5) hx hb dX12_boxes_419 (by decide) ?_
      refine lv_dup2_11 hx hb dX12_boxes_420 rfl rfl ?_
      refine va_iald hx hb hK hP 12 0 rfl rfl (by exact i32_in (by decide) (by decide)) dX12_boxes_421 ?_
      refine lv_iconst (v := 1) hx hb dX12_boxes_422 (by decide) ?_
      refine lv_iadd hx hb dX12_boxes_423 ?_
      refine va_iast hx hb hK hP hD hS 12 0 rfl rfl (by exact i32_in (by decide) (by decide)) dX12_boxes_424 (fun H locs hP hD hS => ?_)
      have hP : va_P (dC, dI) vwCl (rW g ty (Y'_56.1, Y'_56.2.1, Y'_56.2.2.1, Y'_56.2.2.2.1, Y'_56.2.2.2.2.1, (vp_updL (vp_updL Y'_56.2.2.2.2.2.1 (Y'_56.2.1 r'_55.toNatClampNeg + 0).toNatClampNeg ((ac.toInt32).toInt64)) (Y'_56.2.1 r'_55.toNatClampNeg + 2).toNatClampNeg ((ac.toInt32).toInt64)), Y'_56.2.2.2.2.2.2.1, Y'_56.2.2.2.2.2.2.2.1, Y'_56.2.2.2.2.2.2.2.2.1, Y'_56.2.2.2.2.2.2.2.2.2.1, Y'_56.2.2.2.2.2.2.2.2.2.2) (upd pa'_57 a0.toNatClampNeg r'_55) kp'_58 ks I (upd tl 5 ((tl 5) + 1)) ac wr tw) H := hP
      have hD : va_D A (rW g ty (Y'_56.1, Y'_56.2.1, Y'_56.2.2.1, Y'_56.2.2.2.1, Y'_56.2.2.2.2.1, (vp_updL (vp_updL Y'_56.2.2.2.2.2.1 (Y'_56.2.1 r'_55.toNatClampNeg + 0).toNatClampNeg ((ac.toInt32).toInt64)) (Y'_56.2.1 r'_55.toNatClampNeg + 2).toNatClampNeg ((ac.toInt32).toInt64)), Y'_56.2.2.2.2.2.2.1, Y'_56.2.2.2.2.2.2.2.1, Y'_56.2.2.2.2.2.2.2.2.1, Y'_56.2.2.2.2.2.2.2.2.2.1, Y'_56.2.2.2.2.2.2.2.2.2.2) (upd pa'_57 a0.toNatClampNeg r'_55) kp'_58 ks I (upd tl 5 ((tl 5) + 1)) ac wr tw) := hD
      refine lv_lconst (v := 0) hx hb dX12_boxes_425 (by decide) ?_
      refine W.bound (fun gb1 gb2 => ?_)
      have gb1 : H.size ≤ s.heap.size + (0 + 0 + (Y'_56.2.2.2.2.2.2.2.1 - Y.2.2.2.2.2.2.2.1) + 0 + 0) := gb1
      have gb2 : hsum H ≤ hsum s.heap + (0 + 0 + (10 * (Y'_56.2.2.2.2.2.2.2.1 - Y.2.2.2.2.2.2.2.1) + 2 * (Y'_56.2.2.2.2.2.2.2.2.1 - Y.2.2.2.2.2.2.2.2.1)) + 0 + 0) := gb2
      refine W.widen (k := 96000 - Y.2.2.2.2.2.2.2.1) (n := 10 * (96000 - Y.2.2.2.2.2.2.2.1) + 2 * (1542237 - Y.2.2.2.2.2.2.2.2.1)) (by show 0 + 0 + (Y'_56.2.2.2.2.2.2.2.1 - Y.2.2.2.2.2.2.2.1) + 0 + 0 ≤ 96000 - Y.2.2.2.2.2.2.2.1; omega) (by show 0 + 0 + (10 * (Y'_56.2.2.2.2.2.2.2.1 - Y.2.2.2.2.2.2.2.1) + 2 * (Y'_56.2.2.2.2.2.2.2.2.1 - Y.2.2.2.2.2.2.2.2.1)) + 0 + 0 ≤ 10 * (96000 - Y.2.2.2.2.2.2.2.1) + 2 * (1542237 - Y.2.2.2.2.2.2.2.2.1); omega) ?_
      refine gr_l (wo := fun u : rY × (Nat → Int32) × (Nat → Int32) × (Nat → Int32) × Int32 × Int32 => rW g ty u.1 u.2.1 u.2.2.1 ks I u.2.2.2.1 ac u.2.2.2.2.1 u.2.2.2.2.2) (((Y'_56.1, Y'_56.2.1, Y'_56.2.2.1, Y'_56.2.2.2.1, Y'_56.2.2.2.2.1, (vp_updL (vp_updL Y'_56.2.2.2.2.2.1 (Y'_56.2.1 r'_55.toNatClampNeg + 0).toNatClampNeg ((ac.toInt32).toInt64)) (Y'_56.2.1 r'_55.toNatClampNeg + 2).toNatClampNeg ((ac.toInt32).toInt64)), Y'_56.2.2.2.2.2.2.1, Y'_56.2.2.2.2.2.2.2.1, Y'_56.2.2.2.2.2.2.2.2.1, Y'_56.2.2.2.2.2.2.2.2.2.1, Y'_56.2.2.2.2.2.2.2.2.2.2), (upd pa'_57 a0.toNatClampNeg r'_55), kp'_58, (upd tl 5 ((tl 5) + 1)), wr, tw)) hx hb hr hlk hS hP hD (by show H.size ≤ sz + (Y'_56.2.2.2.2.2.2.2.1 - Y.2.2.2.2.2.2.2.1); rw [← hsz]; omega) (by show hsum H ≤ tot + (10 * (Y'_56.2.2.2.2.2.2.2.1 - Y.2.2.2.2.2.2.2.1) + 2 * (Y'_56.2.2.2.2.2.2.2.2.1 - Y.2.2.2.2.2.2.2.2.1)); rw [← htot]; omega) ?_ dX12_boxes_426
      exact ⟨0, (Y'_56.1, Y'_56.2.1, Y'_56.2.2.1, Y'_56.2.2.2.1, Y'_56.2.2.2.2.1, (vp_updL (vp_updL Y'_56.2.2.2.2.2.1 (Y'_56.2.1 r'_55.toNatClampNeg + 0).toNatClampNeg ((ac.toInt32).toInt64)) (Y'_56.2.1 r'_55.toNatClampNeg + 2).toNatClampNeg ((ac.toInt32).toInt64)), Y'_56.2.2.2.2.2.2.1, Y'_56.2.2.2.2.2.2.2.1, Y'_56.2.2.2.2.2.2.2.2.1, Y'_56.2.2.2.2.2.2.2.2.2.1, Y'_56.2.2.2.2.2.2.2.2.2.2), (upd pa'_57 a0.toNatClampNeg r'_55), kp'_58, (upd tl 5 ((tl 5) + 1)), wr, tw, rfl, rfl, (by subst pre6; have hs9 : Y'_56.1 r'_55.toNatClampNeg = rSt 0 ac.toInt32 := hn9.1.trans (by rw [g4]; rfl); have hb9 := nb_box (q := q) (k := 0) (v := ac.toInt32) (w := ac.toInt32) wf rfl rel9 hth9 ⟨hs9, hn9.2.1, hn9.2.2⟩ (by decide) (by intro h9; first | rfl | exact absurd h9 (by decide)) rfl; exact ra_mk wf hcnt pre5 pre8 htl hb9.1 hth9 hle9 (by decide) hgr9 (by assumption) g5 (agr_pN g5) hb9.2 rfl)⟩
  · show _
    have hl : lv_has ls 7 [(0, .ref (g 8)), (1, .int 13), (2, .int a0), (3, .int b0), (4, .int c0)] := hl
    refine lv_iload_n hx hb dX12_boxes_0 rfl (lv_at hl 1 rfl) ?_
    refine lv_tableIn (off := 354) (tgt := 355) hx hb dX12_boxes_1 (by decide) (by decide) (by decide) (by decide) ?_
    refine lv_aload_n hx hb dX12_boxes_355 rfl (lv_at hl 0 rfl) ?_
    refine lv_iload_n hx hb dX12_boxes_356 rfl (lv_at hl 2 rfl) ?_
    refine cV_i (C := RX12) (n := 1) (rest := []) hx hb hml hown hg hT (c_X12_place l dC dI g ty s.heap.size Y pa kp ks I tl ac wr tw a0 ) (cv_of hg wM_X12_83 wN_X12_place wL_X12_X12_place wK_X12_place wI_X12 (by decide +kernel) ⟨Nat.le_of_ble_eq_true rfl, Nat.le_of_ble_eq_true rfl⟩) hK hP hD hS hA (va_recv hK hP (ci := 14) (q0 := 0) rfl rfl) rfl hl.1 rfl (Nat.le_of_ble_eq_true rfl) dX12_boxes_357 ⟨by show 0 + 0 ≤ 96000 - Y.2.2.2.2.2.2.2.1; omega, by show 0 + 0 ≤ 10 * (96000 - Y.2.2.2.2.2.2.2.1) + 2 * (1542237 - Y.2.2.2.2.2.2.2.2.1); omega⟩ (fun r_67 u_68 H locs q_66 hP hD hS => ?_)
    rcases q_66 with ⟨rfl, rfl, f_69⟩ | ⟨rfl, rfl, f_70⟩
    · show _
      exact absurd (by assumption) f_69
    · show _
      have hP : va_P (dC, dI) vwCl (rW g ty Y pa kp ks I tl ac wr tw) H := hP
      have hD : va_D A (rW g ty Y pa kp ks I tl ac wr tw) := hD
      refine lv_if_ne (tgt := 368) hx hb dX12_boxes_360 (by decide) (fun _ => ?_) (fun c9 => absurd c9 (by decide)) 
      refine lv_aload_n hx hb dX12_boxes_368 rfl (lv_at hl 0 rfl) ?_
      refine lv_bipush (v := 12) hx hb dX12_boxes_369 (by decide) ?_
      refine lv_iload_n hx hb dX12_boxes_371 rfl (lv_at hl 3 rfl) ?_
      refine lv_iconst (v := 3) hx hb dX12_boxes_372 (by decide) ?_
      refine lv_iand hx hb dX12_boxes_373 ?_
      refine lv_iadd hx hb dX12_boxes_374 ?_
      refine lv_iconst (v := 3) hx hb dX12_boxes_375 (by decide) ?_
      refine gV_i (C := RX12) (n := 2) (rest := []) hx hb hml hown hg hT (c_X12_make l dC dI g ty H.size (hsum H) Y pa kp ks I tl ac wr tw ρ pl P none (12 + (b0 &&& 3)) 3 (by exact rel) (by exact wf) (by exact Or.inl pre2) (by exact ⟨by decide, by decide⟩) (by exact cnt_ok hcnt pre5 pre8)) (cv_of hg wM_X12_128 wN_X12_make wL_X12_X12_make wK_X12_make wI_X12 (by decide +kernel) ⟨Nat.le_of_ble_eq_true rfl, Nat.le_of_ble_eq_true rfl⟩) hK hP hD hS hA (va_recv hK hP (ci := 14) (q0 := 0) rfl rfl) rfl hl.1 rfl (Nat.le_of_ble_eq_true rfl) dX12_boxes_376 ⟨by show 0 + 0 + (96000 - Y.2.2.2.2.2.2.2.1) ≤ 96000 - Y.2.2.2.2.2.2.2.1; omega, by show 0 + 0 + (10 * (96000 - Y.2.2.2.2.2.2.2.1) + 2 * (1542237 - Y.2.2.2.2.2.2.2.2.1)) ≤ 10 * (96000 - Y.2.2.2.2.2.2.2.1) + 2 * (1542237 - Y.2.2.2.2.2.2.2.2.1); omega⟩ (fun r_72 u_73 H locs q_71 hP hD hS => ?_)
      obtain ⟨r'_74, Y'_75, pa'_76, kp'_77, rfl, rfl, f_78⟩ := q_71
      have hP : va_P (dC, dI) vwCl (rW g ty Y'_75 pa'_76 kp'_77 ks I tl ac wr tw) H := hP
      have hD : va_D A (rW g ty Y'_75 pa'_76 kp'_77 ks I tl ac wr tw) := hD
      obtain ⟨ρ9, rel9, hk9, hth9, hn9, hle9, hgr9⟩ := f_78
      have hgr8 := hgr9.1
      have hgr7 := hgr9.2
      have hlc9 := rl_L rel9.1
      have hin9 : vp_in r'_74 Y'_75.2.2.2.2.2.2.2.1 := i32_in (i32_pos rel9.2.1.1).1 (by have := rel9.1.1.2; have := hth9.2; omega)
      refine lv_istore (lv' := [(5, .int r'_74), (0, .ref (g 8)), (1, .int 13), (2, .int a0), (3, .int b0), (4, .int c0)]) hx hb dX12_boxes_379 hl (by decide) rfl (fun ls hl => ?_)
      refine lv_aload_n hx hb dX12_boxes_381 rfl (lv_at hl 1 rfl) ?_
      refine lv_iload hx hb dX12_boxes_382 (lv_at hl 0 rfl) ?_
      refine lv_iconst (v := 0) hx hb dX12_boxes_384 (by decide) ?_
      refine lv_aload_n hx hb dX12_boxes_385 rfl (lv_at hl 1 rfl) ?_
      refine va_get (D := (dC, dI)) (ci := 14) (v := .long ac) (C := RX12) (T := TX12) (N := 21) hx hb hg inG12 hown hK hP 0 rfl rfl 13 (by decide) (hg _ wF_X12_143) (fun _ h9 => h9) rfl dX12_boxes_386 ?_
      refine lv_l2i (v := (ac.toInt32)) hx hb dX12_boxes_389 rfl ?_
      refine lv_i2l (v := ((ac.toInt32).toInt64)) hx hb dX12_boxes_390 rfl ?_
      refine cV_v (C := RX12) (n := 3) (rest := []) hx hb hml hown hg hT (c_X12_put l dC dI g ty H.size Y'_75 pa'_76 kp'_77 ks I tl ac wr tw r'_74 0 ((ac.toInt32).toInt64) (by exact (nb_at rel9 hth9 hn9.2.1).1) (by exact ((nb_at rel9 hth9 hn9.2.1).2.1 _ (i32_in (by decide) (by decide))).1)) (cv_of hg wM_X12_151 wN_X12_put wL_X12_X12_put wK_X12_put wI_X12 (by decide +kernel) ⟨Nat.le_of_ble_eq_true rfl, Nat.le_of_ble_eq_true rfl⟩) hK hP hD hS hA (va_recv hK hP (ci := 14) (q0 := 0) rfl rfl) rfl hl.1 rfl (Nat.le_of_ble_eq_true rfl) dX12_boxes_391 ⟨by show 0 + 0 + (Y'_75.2.2.2.2.2.2.2.1 - Y.2.2.2.2.2.2.2.1) + 0 ≤ 96000 - Y.2.2.2.2.2.2.2.1; omega, by show 0 + 0 + (10 * (Y'_75.2.2.2.2.2.2.2.1 - Y.2.2.2.2.2.2.2.1) + 2 * (Y'_75.2.2.2.2.2.2.2.2.1 - Y.2.2.2.2.2.2.2.2.1)) + 0 ≤ 10 * (96000 - Y.2.2.2.2.2.2.2.1) + 2 * (1542237 - Y.2.2.2.2.2.2.2.2.1); omega⟩ (fun u_81 H locs q_79 hP hD hS => ?_)
      obtain rfl := q_79
      have hP : va_P (dC, dI) vwCl (rW g ty (Y'_75.1, Y'_75.2.1, Y'_75.2.2.1, Y'_75.2.2.2.1, Y'_75.2.2.2.2.1, (vp_updL Y'_75.2.2.2.2.2.1 (Y'_75.2.1 r'_74.toNatClampNeg + 0).toNatClampNeg ((ac.toInt32).toInt64)), Y'_75.2.2.2.2.2.2.1, Y'_75.2.2.2.2.2.2.2.1, Y'_75.2.2.2.2.2.2.2.2.1, Y'_75.2.2.2.2.2.2.2.2.2.1, Y'_75.2.2.2.2.2.2.2.2.2.2) pa'_76 kp'_77 ks I tl ac wr tw) H := hP
      have hD : va_D A (rW g ty (Y'_75.1, Y'_75.2.1, Y'_75.2.2.1, Y'_75.2.2.2.1, Y'_75.2.2.2.2.1, (vp_updL Y'_75.2.2.2.2.2.1 (Y'_75.2.1 r'_74.toNatClampNeg + 0).toNatClampNeg ((ac.toInt32).toInt64)), Y'_75.2.2.2.2.2.2.1, Y'_75.2.2.2.2.2.2.2.1, Y'_75.2.2.2.2.2.2.2.2.1, Y'_75.2.2.2.2.2.2.2.2.2.1, Y'_75.2.2.2.2.2.2.2.2.2.2) pa'_76 kp'_77 ks I tl ac wr tw) := hD
      refine lv_aload_n hx hb dX12_boxes_394 rfl (lv_at hl 1 rfl) ?_
      refine lv_iload hx hb dX12_boxes_395 (lv_at hl 0 rfl) ?_
      refine lv_iconst (v := 2) hx hb dX12_boxes_397 (by decide) ?_
      refine lv_aload_n hx hb dX12_boxes_398 rfl (lv_at hl 1 rfl) ?_
      refine va_get (D := (dC, dI)) (ci := 14) (v := .long ac) (C := RX12) (T := TX12) (N := 21) hx hb hg inG12 hown hK hP 0 rfl rfl 13 (by decide) (hg _ wF_X12_143) (fun _ h9 => h9) rfl dX12_boxes_399 ?_
      refine lv_l2i (v := (ac.toInt32)) hx hb dX12_boxes_402 rfl ?_
      refine lv_i2l (v := ((ac.toInt32).toInt64)) hx hb dX12_boxes_403 rfl ?_
      refine cV_v (C := RX12) (n := 3) (rest := []) hx hb hml hown hg hT (c_X12_put l dC dI g ty H.size (Y'_75.1, Y'_75.2.1, Y'_75.2.2.1, Y'_75.2.2.2.1, Y'_75.2.2.2.2.1, (vp_updL Y'_75.2.2.2.2.2.1 (Y'_75.2.1 r'_74.toNatClampNeg + 0).toNatClampNeg ((ac.toInt32).toInt64)), Y'_75.2.2.2.2.2.2.1, Y'_75.2.2.2.2.2.2.2.1, Y'_75.2.2.2.2.2.2.2.2.1, Y'_75.2.2.2.2.2.2.2.2.2.1, Y'_75.2.2.2.2.2.2.2.2.2.2) pa'_76 kp'_77 ks I tl ac wr tw r'_74 2 ((ac.toInt32).toInt64) (by exact (nb_at rel9 hth9 hn9.2.1).1) (by exact ((nb_at rel9 hth9 hn9.2.1).2.1 _ (i32_in (by decide) (by decide))).1)) (cv_of hg wM_X12_151 wN_X12_put wL_X12_X12_put wK_X12_put wI_X12 (by decide +kernel) ⟨Nat.le_of_ble_eq_true rfl, Nat.le_of_ble_eq_true rfl⟩) hK hP hD hS hA (va_recv hK hP (ci := 14) (q0 := 0) rfl rfl) rfl hl.1 rfl (Nat.le_of_ble_eq_true rfl) dX12_boxes_404 ⟨by show 0 + 0 + (Y'_75.2.2.2.2.2.2.2.1 - Y.2.2.2.2.2.2.2.1) + 0 + 0 ≤ 96000 - Y.2.2.2.2.2.2.2.1; omega, by show 0 + 0 + (10 * (Y'_75.2.2.2.2.2.2.2.1 - Y.2.2.2.2.2.2.2.1) + 2 * (Y'_75.2.2.2.2.2.2.2.2.1 - Y.2.2.2.2.2.2.2.2.1)) + 0 + 0 ≤ 10 * (96000 - Y.2.2.2.2.2.2.2.1) + 2 * (1542237 - Y.2.2.2.2.2.2.2.2.1); omega⟩ (fun u_84 H locs q_82 hP hD hS => ?_)
      obtain rfl := q_82
      have hP : va_P (dC, dI) vwCl (rW g ty (Y'_75.1, Y'_75.2.1, Y'_75.2.2.1, Y'_75.2.2.2.1, Y'_75.2.2.2.2.1, (vp_updL (vp_updL Y'_75.2.2.2.2.2.1 (Y'_75.2.1 r'_74.toNatClampNeg + 0).toNatClampNeg ((ac.toInt32).toInt64)) (Y'_75.2.1 r'_74.toNatClampNeg + 2).toNatClampNeg ((ac.toInt32).toInt64)), Y'_75.2.2.2.2.2.2.1, Y'_75.2.2.2.2.2.2.2.1, Y'_75.2.2.2.2.2.2.2.2.1, Y'_75.2.2.2.2.2.2.2.2.2.1, Y'_75.2.2.2.2.2.2.2.2.2.2) pa'_76 kp'_77 ks I tl ac wr tw) H := hP
      have hD : va_D A (rW g ty (Y'_75.1, Y'_75.2.1, Y'_75.2.2.1, Y'_75.2.2.2.1, Y'_75.2.2.2.2.1, (vp_updL (vp_updL Y'_75.2.2.2.2.2.1 (Y'_75.2.1 r'_74.toNatClampNeg + 0).toNatClampNeg ((ac.toInt32).toInt64)) (Y'_75.2.1 r'_74.toNatClampNeg + 2).toNatClampNeg ((ac.toInt32).toInt64)), Y'_75.2.2.2.2.2.2.1, Y'_75.2.2.2.2.2.2.2.1, Y'_75.2.2.2.2.2.2.2.2.1, Y'_75.2.2.2.2.2.2.2.2.2.1, Y'_75.2.2.2.2.2.2.2.2.2.2) pa'_76 kp'_77 ks I tl ac wr tw) := hD
      refine lv_aload_n hx hb dX12_boxes_407 rfl (lv_at hl 1 rfl) ?_
      refine va_get (D := (dC, dI)) (ci := 14) (v := .ref (g 9)) (C := RX12) (T := TX12) (N := 21) hx hb hg inG12 hown hK hP 0 rfl rfl 8 (by decide) (hg _ wF_X12_34) (fun _ h9 => h9) rfl dX12_boxes_408 ?_
      refine lv_iload_n hx hb dX12_boxes_411 rfl (lv_at hl 3 rfl) ?_
      refine lv_iload hx hb dX12_boxes_412 (lv_at hl 0 rfl) ?_
      refine va_iast hx hb hK hP hD hS 7 0 rfl rfl (by assumption) dX12_boxes_414 (fun H locs hP hD hS => ?_)
      have hP : va_P (dC, dI) vwCl (rW g ty (Y'_75.1, Y'_75.2.1, Y'_75.2.2.1, Y'_75.2.2.2.1, Y'_75.2.2.2.2.1, (vp_updL (vp_updL Y'_75.2.2.2.2.2.1 (Y'_75.2.1 r'_74.toNatClampNeg + 0).toNatClampNeg ((ac.toInt32).toInt64)) (Y'_75.2.1 r'_74.toNatClampNeg + 2).toNatClampNeg ((ac.toInt32).toInt64)), Y'_75.2.2.2.2.2.2.1, Y'_75.2.2.2.2.2.2.2.1, Y'_75.2.2.2.2.2.2.2.2.1, Y'_75.2.2.2.2.2.2.2.2.2.1, Y'_75.2.2.2.2.2.2.2.2.2.2) (upd pa'_76 a0.toNatClampNeg r'_74) kp'_77 ks I tl ac wr tw) H := hP
      have hD : va_D A (rW g ty (Y'_75.1, Y'_75.2.1, Y'_75.2.2.1, Y'_75.2.2.2.1, Y'_75.2.2.2.2.1, (vp_updL (vp_updL Y'_75.2.2.2.2.2.1 (Y'_75.2.1 r'_74.toNatClampNeg + 0).toNatClampNeg ((ac.toInt32).toInt64)) (Y'_75.2.1 r'_74.toNatClampNeg + 2).toNatClampNeg ((ac.toInt32).toInt64)), Y'_75.2.2.2.2.2.2.1, Y'_75.2.2.2.2.2.2.2.1, Y'_75.2.2.2.2.2.2.2.2.1, Y'_75.2.2.2.2.2.2.2.2.2.1, Y'_75.2.2.2.2.2.2.2.2.2.2) (upd pa'_76 a0.toNatClampNeg r'_74) kp'_77 ks I tl ac wr tw) := hD
      refine lv_aload_n hx hb dX12_boxes_415 rfl (lv_at hl 1 rfl) ?_
      refine va_get (D := (dC, dI)) (ci := 14) (v := .ref (g 14)) (C := RX12) (T := TX12) (N := 21) hx hb hg inG12 hown hK hP 0 rfl rfl 17 (by decide) (hg _ wF_X12_49) (fun _ h9 => h9) rfl dX12_boxes_416 ?_
      refine lv_iconst (v := 5) hx hb dX12_boxes_419 (by decide) ?_
      refine lv_dup2_11 hx hb dX12_boxes_420 rfl rfl ?_
      refine va_iald hx hb hK hP 12 0 rfl rfl (by exact i32_in (by decide) (by decide)) dX12_boxes_421 ?_
      refine lv_iconst (v := 1) hx hb dX12_boxes_422 (by decide) ?_
      refine lv_iadd hx hb dX12_boxes_423 ?_
      refine va_iast hx hb hK hP hD hS 12 0 rfl rfl (by exact i32_in (by decide) (by decide)) dX12_boxes_424 (fun H locs hP hD hS => ?_)
      have hP : va_P (dC, dI) vwCl (rW g ty (Y'_75.1, Y'_75.2.1, Y'_75.2.2.1, Y'_75.2.2.2.1, Y'_75.2.2.2.2.1, (vp_updL (vp_updL Y'_75.2.2.2.2.2.1 (Y'_75.2.1 r'_74.toNatClampNeg + 0).toNatClampNeg ((ac.toInt32).toInt64)) (Y'_75.2.1 r'_74.toNatClampNeg + 2).toNatClampNeg ((ac.toInt32).toInt64)), Y'_75.2.2.2.2.2.2.1, Y'_75.2.2.2.2.2.2.2.1, Y'_75.2.2.2.2.2.2.2.2.1, Y'_75.2.2.2.2.2.2.2.2.2.1, Y'_75.2.2.2.2.2.2.2.2.2.2) (upd pa'_76 a0.toNatClampNeg r'_74) kp'_77 ks I (upd tl 5 ((tl 5) + 1)) ac wr tw) H := hP
      have hD : va_D A (rW g ty (Y'_75.1, Y'_75.2.1, Y'_75.2.2.1, Y'_75.2.2.2.1, Y'_75.2.2.2.2.1, (vp_updL (vp_updL Y'_75.2.2.2.2.2.1 (Y'_75.2.1 r'_74.toNatClampNeg + 0).toNatClampNeg ((ac.toInt32).toInt64)) (Y'_75.2.1 r'_74.toNatClampNeg + 2).toNatClampNeg ((ac.toInt32).toInt64)), Y'_75.2.2.2.2.2.2.1, Y'_75.2.2.2.2.2.2.2.1, Y'_75.2.2.2.2.2.2.2.2.1, Y'_75.2.2.2.2.2.2.2.2.2.1, Y'_75.2.2.2.2.2.2.2.2.2.2) (upd pa'_76 a0.toNatClampNeg r'_74) kp'_77 ks I (upd tl 5 ((tl 5) + 1)) ac wr tw) := hD
      refine lv_lconst (v := 0) hx hb dX12_boxes_425 (by decide) ?_
      refine W.bound (fun gb1 gb2 => ?_)
      have gb1 : H.size ≤ s.heap.size + (0 + 0 + (Y'_75.2.2.2.2.2.2.2.1 - Y.2.2.2.2.2.2.2.1) + 0 + 0) := gb1
      have gb2 : hsum H ≤ hsum s.heap + (0 + 0 + (10 * (Y'_75.2.2.2.2.2.2.2.1 - Y.2.2.2.2.2.2.2.1) + 2 * (Y'_75.2.2.2.2.2.2.2.2.1 - Y.2.2.2.2.2.2.2.2.1)) + 0 + 0) := gb2
      refine W.widen (k := 96000 - Y.2.2.2.2.2.2.2.1) (n := 10 * (96000 - Y.2.2.2.2.2.2.2.1) + 2 * (1542237 - Y.2.2.2.2.2.2.2.2.1)) (by show 0 + 0 + (Y'_75.2.2.2.2.2.2.2.1 - Y.2.2.2.2.2.2.2.1) + 0 + 0 ≤ 96000 - Y.2.2.2.2.2.2.2.1; omega) (by show 0 + 0 + (10 * (Y'_75.2.2.2.2.2.2.2.1 - Y.2.2.2.2.2.2.2.1) + 2 * (Y'_75.2.2.2.2.2.2.2.2.1 - Y.2.2.2.2.2.2.2.2.1)) + 0 + 0 ≤ 10 * (96000 - Y.2.2.2.2.2.2.2.1) + 2 * (1542237 - Y.2.2.2.2.2.2.2.2.1); omega) ?_
      refine gr_l (wo := fun u : rY × (Nat → Int32) × (Nat → Int32) × (Nat → Int32) × Int32 × Int32 => rW g ty u.1 u.2.1 u.2.2.1 ks I u.2.2.2.1 ac u.2.2.2.2.1 u.2.2.2.2.2) (((Y'_75.1, Y'_75.2.1, Y'_75.2.2.1, Y'_75.2.2.2.1, Y'_75.2.2.2.2.1, (vp_updL (vp_updL Y'_75.2.2.2.2.2.1 (Y'_75.2.1 r'_74.toNatClampNeg + 0).toNatClampNeg ((ac.toInt32).toInt64)) (Y'_75.2.1 r'_74.toNatClampNeg + 2).toNatClampNeg ((ac.toInt32).toInt64)), Y'_75.2.2.2.2.2.2.1, Y'_75.2.2.2.2.2.2.2.1, Y'_75.2.2.2.2.2.2.2.2.1, Y'_75.2.2.2.2.2.2.2.2.2.1, Y'_75.2.2.2.2.2.2.2.2.2.2), (upd pa'_76 a0.toNatClampNeg r'_74), kp'_77, (upd tl 5 ((tl 5) + 1)), wr, tw)) hx hb hr hlk hS hP hD (by show H.size ≤ sz + (Y'_75.2.2.2.2.2.2.2.1 - Y.2.2.2.2.2.2.2.1); rw [← hsz]; omega) (by show hsum H ≤ tot + (10 * (Y'_75.2.2.2.2.2.2.2.1 - Y.2.2.2.2.2.2.2.1) + 2 * (Y'_75.2.2.2.2.2.2.2.2.1 - Y.2.2.2.2.2.2.2.2.1)); rw [← htot]; omega) ?_ dX12_boxes_426
      exact ⟨0, (Y'_75.1, Y'_75.2.1, Y'_75.2.2.1, Y'_75.2.2.2.1, Y'_75.2.2.2.2.1, (vp_updL (vp_updL Y'_75.2.2.2.2.2.1 (Y'_75.2.1 r'_74.toNatClampNeg + 0).toNatClampNeg ((ac.toInt32).toInt64)) (Y'_75.2.1 r'_74.toNatClampNeg + 2).toNatClampNeg ((ac.toInt32).toInt64)), Y'_75.2.2.2.2.2.2.1, Y'_75.2.2.2.2.2.2.2.1, Y'_75.2.2.2.2.2.2.2.2.1, Y'_75.2.2.2.2.2.2.2.2.2.1, Y'_75.2.2.2.2.2.2.2.2.2.2), (upd pa'_76 a0.toNatClampNeg r'_74), kp'_77, (upd tl 5 ((tl 5) + 1)), wr, tw, rfl, rfl, (by subst pre6; have hs9 : Y'_75.1 r'_74.toNatClampNeg = rSt 3 ac.toInt32 := hn9.1.trans (by rw [and3 g4 g5 g6]; rfl); have hb9 := nb_box (q := q) (k := 3) (v := ac.toInt32) (w := 0) wf rfl rel9 hth9 ⟨hs9, hn9.2.1, hn9.2.2⟩ (by decide) (by intro h9; first | rfl | exact absurd h9 (by decide)) rfl; exact ra_mk wf hcnt pre5 pre8 htl hb9.1 hth9 hle9 (by decide) hgr9 (by assumption) g7 (agr_pN g7) hb9.2 rfl)⟩
set_option maxHeartbeats 800000 in
set_option maxRecDepth 100000 in
theorem c_X12_boxes_14 (l : Launch) (dC : Nat → ClassId) (dI : Nat → Nat → Nat) (g : Nat → Nat) (ty : Nat → ClassId) (sz tot : Nat) (Y : rY) (pa : Nat → Int32) (kp : Nat → Int32) (ks : Int32) (I : rI) (tl : Nat → Int32) (ac : Int64) (wr : Int32) (tw : Int32) (ρ : Nat → Nat) (pl : Nat → Option Nat) (P : cQ) (md : Int32) (Z : cZ) (rz9 : Int64) (u9 : (Nat → Option Nat) × Int32 × Int32 × cQ) (a0 : Int32) (b0 : Int32) (c0 : Int32) (pre0 : rR Y.2.2.2.2.2.2.2.2.2.1 Y pa ρ pl P) (pre1 : cWF pl P) (pre2 : ks = 0) (pre3 : rCnt Y md) (pre4 : tl 5 = md) (pre5 : 0 ≤ md ∧ md ≤ 6000) (pre6 : tw = 0) (pre7 : q_X11_makeLetter a0 b0 pl ac (-1) md Z P rz9 u9) (pre8 : md < 6000) : Met l yX12_boxes (Cond.code yX12_boxes cX12_boxes 7 (some .long) :: gT) ({ frames := 3, cells := 96000 - Y.2.2.2.2.2.2.2.1, slots := 10 * (96000 - Y.2.2.2.2.2.2.2.1) + 2 * (1542237 - Y.2.2.2.2.2.2.2.2.1), locals := 82 }) (cPg (dC, dI) (rTy ty) (rW g ty Y pa kp ks I tl ac wr tw) sz tot [.ref (g 8), .int 14, .int a0, .int b0, .int c0]) (va_Ql (fun (rz : Int64) (u : rY × (Nat → Int32) × (Nat → Int32) × (Nat → Int32) × Int32 × Int32) => ∃ (r' : Int64) (Y' : rY) (pa' kp' tl' : Nat → Int32) (wr' tw' : Int32), r' = rz ∧ (Y', pa', kp', tl', wr', tw') = u ∧ rAns u9.2.1 rz9 u9.1 u9.2.2.2 u9.2.2.1 tl Y r' Y' pa' tl' wr' tw') (cBg (dC, dI) (fun u : rY × (Nat → Int32) × (Nat → Int32) × (Nat → Int32) × Int32 × Int32 => rW g ty u.1 u.2.1 u.2.2.1 ks I u.2.2.2.1 ac u.2.2.2.2.1 u.2.2.2.2.2) (va_A (rW g ty Y pa kp ks I tl ac wr tw) sz) sz tot (fun u : rY × (Nat → Int32) × (Nat → Int32) × (Nat → Int32) × Int32 × Int32 => u.1.2.2.2.2.2.2.2.1 - Y.2.2.2.2.2.2.2.1) (fun u : rY × (Nat → Int32) × (Nat → Int32) × (Nat → Int32) × Int32 × Int32 => 10 * (u.1.2.2.2.2.2.2.2.1 - Y.2.2.2.2.2.2.2.1) + 2 * (u.1.2.2.2.2.2.2.2.2.1 - Y.2.2.2.2.2.2.2.2.1))) (va_A (rW g ty Y pa kp ks I tl ac wr tw) sz)) (96000 - Y.2.2.2.2.2.2.2.1) (10 * (96000 - Y.2.2.2.2.2.2.2.1) + 2 * (1542237 - Y.2.2.2.2.2.2.2.2.1)) (va_A (rW g ty Y pa kp ks I tl ac wr tw) sz) := by
  refine cg_of (Qa := fun A => va_Ql (fun (rz : Int64) (u : rY × (Nat → Int32) × (Nat → Int32) × (Nat → Int32) × Int32 × Int32) => ∃ (r' : Int64) (Y' : rY) (pa' kp' tl' : Nat → Int32) (wr' tw' : Int32), r' = rz ∧ (Y', pa', kp', tl', wr', tw') = u ∧ rAns u9.2.1 rz9 u9.1 u9.2.2.2 u9.2.2.1 tl Y r' Y' pa' tl' wr' tw') (cBg (dC, dI) (fun u : rY × (Nat → Int32) × (Nat → Int32) × (Nat → Int32) × Int32 × Int32 => rW g ty u.1 u.2.1 u.2.2.1 ks I u.2.2.2.1 ac u.2.2.2.2.1 u.2.2.2.2.2) A sz tot (fun u : rY × (Nat → Int32) × (Nat → Int32) × (Nat → Int32) × Int32 × Int32 => u.1.2.2.2.2.2.2.2.1 - Y.2.2.2.2.2.2.2.1) (fun u : rY × (Nat → Int32) × (Nat → Int32) × (Nat → Int32) × Int32 × Int32 => 10 * (u.1.2.2.2.2.2.2.2.1 - Y.2.2.2.2.2.2.2.1) + 2 * (u.1.2.2.2.2.2.2.2.2.1 - Y.2.2.2.2.2.2.2.2.1))) A) (by decide) (Nat.le_of_ble_eq_true rfl) ?_
  intro p e s m below meth c A hx hb hr hml hown hg hlk hmn hP hK hD hT hS hA hsz htot ls hl
  have hown : s.vm.findClass RX12 = some m.cls := hown
  have rel := pre0
  have wf := pre1
  have hcnt := pre3
  have htl := pre4
  rcases pre7 with ⟨rfl, rfl, g2⟩ | ⟨rfl, rfl, g2, g3⟩ | ⟨q, z, rfl, rfl, g2, g3, g4, g5⟩
  · show _
    exact absurd pre8 g2
  · show _
    have hl : lv_has ls 7 [(0, .ref (g 8)), (1, .int 14), (2, .int a0), (3, .int b0), (4, .int c0)] := hl
    refine lv_iload_n hx hb dX12_boxes_0 rfl (lv_at hl 1 rfl) ?_
    refine lv_tableIn (off := 426) (tgt := 427) hx hb dX12_boxes_1 (by decide) (by decide) (by decide) (by decide) ?_
    refine lv_aload_n hx hb dX12_boxes_427 rfl (lv_at hl 0 rfl) ?_
    refine lv_iload_n hx hb dX12_boxes_428 rfl (lv_at hl 2 rfl) ?_
    refine cV_i (C := RX12) (n := 1) (rest := []) hx hb hml hown hg hT (c_X12_place l dC dI g ty s.heap.size Y pa kp ks I tl ac wr tw a0 ) (cv_of hg wM_X12_83 wN_X12_place wL_X12_X12_place wK_X12_place wI_X12 (by decide +kernel) ⟨Nat.le_of_ble_eq_true rfl, Nat.le_of_ble_eq_true rfl⟩) hK hP hD hS hA (va_recv hK hP (ci := 14) (q0 := 0) rfl rfl) rfl hl.1 rfl (Nat.le_of_ble_eq_true rfl) dX12_boxes_429 ⟨by show 0 + 0 ≤ 96000 - Y.2.2.2.2.2.2.2.1; omega, by show 0 + 0 ≤ 10 * (96000 - Y.2.2.2.2.2.2.2.1) + 2 * (1542237 - Y.2.2.2.2.2.2.2.2.1); omega⟩ (fun r_2 u_3 H locs q_1 hP hD hS => ?_)
    rcases q_1 with ⟨rfl, rfl, f_4⟩ | ⟨rfl, rfl, f_5⟩
    · show _
      have hP : va_P (dC, dI) vwCl (rW g ty Y pa kp ks I tl ac 2 tw) H := hP
      have hD : va_D A (rW g ty Y pa kp ks I tl ac 2 tw) := hD
      refine lv_if_ne (tgt := 440) hx hb dX12_boxes_432 (by decide) (fun c9 => absurd (by decide) c9) (fun _ => ?_)
      refine lv_aload_n hx hb dX12_boxes_435 rfl (lv_at hl 0 rfl) ?_
      refine cV_l (C := RX12) (n := 0) (rest := []) hx hb hml hown hg hT (c_X12_no l dC dI g ty H.size Y pa kp ks I tl ac 2 tw  ) (cv_of hg wM_X12_107 wN_X12_no wL_X12_X12_no wK_X12_no wI_X12 (by decide +kernel) ⟨Nat.le_of_ble_eq_true rfl, Nat.le_of_ble_eq_true rfl⟩) hK hP hD hS hA (va_recv hK hP (ci := 14) (q0 := 0) rfl rfl) rfl hl.1 rfl (Nat.le_of_ble_eq_true rfl) dX12_boxes_436 ⟨by show 0 + 0 + 0 ≤ 96000 - Y.2.2.2.2.2.2.2.1; omega, by show 0 + 0 + 0 ≤ 10 * (96000 - Y.2.2.2.2.2.2.2.1) + 2 * (1542237 - Y.2.2.2.2.2.2.2.2.1); omega⟩ (fun r_7 u_8 H locs q_6 hP hD hS => ?_)
      obtain ⟨rfl, rfl⟩ := q_6
      have hP : va_P (dC, dI) vwCl (rW g ty Y pa kp ks I tl ac 2 1) H := hP
      have hD : va_D A (rW g ty Y pa kp ks I tl ac 2 1) := hD
      refine W.bound (fun gb1 gb2 => ?_)
      have gb1 : H.size ≤ s.heap.size + (0 + 0 + 0) := gb1
      have gb2 : hsum H ≤ hsum s.heap + (0 + 0 + 0) := gb2
      refine W.widen (k := 96000 - Y.2.2.2.2.2.2.2.1) (n := 10 * (96000 - Y.2.2.2.2.2.2.2.1) + 2 * (1542237 - Y.2.2.2.2.2.2.2.2.1)) (by show 0 + 0 + 0 ≤ 96000 - Y.2.2.2.2.2.2.2.1; omega) (by show 0 + 0 + 0 ≤ 10 * (96000 - Y.2.2.2.2.2.2.2.1) + 2 * (1542237 - Y.2.2.2.2.2.2.2.2.1); omega) ?_
      refine gr_l (wo := fun u : rY × (Nat → Int32) × (Nat → Int32) × (Nat → Int32) × Int32 × Int32 => rW g ty u.1 u.2.1 u.2.2.1 ks I u.2.2.2.1 ac u.2.2.2.2.1 u.2.2.2.2.2) ((Y, pa, kp, tl, 2, 1)) hx hb hr hlk hS hP hD (by show H.size ≤ sz + (Y.2.2.2.2.2.2.2.1 - Y.2.2.2.2.2.2.2.1); rw [← hsz]; omega) (by show hsum H ≤ tot + (10 * (Y.2.2.2.2.2.2.2.1 - Y.2.2.2.2.2.2.2.1) + 2 * (Y.2.2.2.2.2.2.2.2.1 - Y.2.2.2.2.2.2.2.2.1)); rw [← htot]; omega) ?_ dX12_boxes_439
      exact ⟨0, Y, pa, kp, tl, 2, 1, rfl, rfl, (by exact ra_f (f := 2) rel hcnt htl (by decide))⟩
    · show _
      exact absurd f_5 (by assumption)
  · show _
    have hl : lv_has ls 7 [(0, .ref (g 8)), (1, .int 14), (2, .int a0), (3, .int b0), (4, .int c0)] := hl
    refine lv_iload_n hx hb dX12_boxes_0 rfl (lv_at hl 1 rfl) ?_
    refine lv_tableIn (off := 426) (tgt := 427) hx hb dX12_boxes_1 (by decide) (by decide) (by decide) (by decide) ?_
    refine lv_aload_n hx hb dX12_boxes_427 rfl (lv_at hl 0 rfl) ?_
    refine lv_iload_n hx hb dX12_boxes_428 rfl (lv_at hl 2 rfl) ?_
    refine cV_i (C := RX12) (n := 1) (rest := []) hx hb hml hown hg hT (c_X12_place l dC dI g ty s.heap.size Y pa kp ks I tl ac wr tw a0 ) (cv_of hg wM_X12_83 wN_X12_place wL_X12_X12_place wK_X12_place wI_X12 (by decide +kernel) ⟨Nat.le_of_ble_eq_true rfl, Nat.le_of_ble_eq_true rfl⟩) hK hP hD hS hA (va_recv hK hP (ci := 14) (q0 := 0) rfl rfl) rfl hl.1 rfl (Nat.le_of_ble_eq_true rfl) dX12_boxes_429 ⟨by show 0 + 0 ≤ 96000 - Y.2.2.2.2.2.2.2.1; omega, by show 0 + 0 ≤ 10 * (96000 - Y.2.2.2.2.2.2.2.1) + 2 * (1542237 - Y.2.2.2.2.2.2.2.2.1); omega⟩ (fun r_10 u_11 H locs q_9 hP hD hS => ?_)
    rcases q_9 with ⟨rfl, rfl, f_12⟩ | ⟨rfl, rfl, f_13⟩
    · show _
      exact absurd (by assumption) f_12
    · show _
      have hP : va_P (dC, dI) vwCl (rW g ty Y pa kp ks I tl ac wr tw) H := hP
      have hD : va_D A (rW g ty Y pa kp ks I tl ac wr tw) := hD
      refine lv_if_ne (tgt := 440) hx hb dX12_boxes_432 (by decide) (fun _ => ?_) (fun c9 => absurd c9 (by decide)) 
      refine lv_aload_n hx hb dX12_boxes_440 rfl (lv_at hl 0 rfl) ?_
      refine va_get (D := (dC, dI)) (ci := 14) (v := .ref (g 9)) (C := RX12) (T := TX12) (N := 21) hx hb hg inG12 hown hK hP 0 rfl rfl 8 (by decide) (hg _ wF_X12_34) (fun _ h9 => h9) rfl dX12_boxes_441 ?_
      refine lv_iload_n hx hb dX12_boxes_444 rfl (lv_at hl 2 rfl) ?_
      refine lv_aload_n hx hb dX12_boxes_445 rfl (lv_at hl 0 rfl) ?_
      refine lv_bipush (v := 16) hx hb dX12_boxes_446 (by decide) ?_
      refine lv_iload_n hx hb dX12_boxes_448 rfl (lv_at hl 3 rfl) ?_
      refine lv_ldc (v := (-2147483648)) hx hb hown (hg _ wQ_X12_157) dX12_boxes_449 ?_
      refine lv_icmp_ne (tgt := 458) hx hb dX12_boxes_451 (by decide) (fun c_14 => ?_) (fun c_14 => ?_)
      · show _
        refine lv_iload_n hx hb dX12_boxes_458 rfl (lv_at hl 3 rfl) ?_
        refine lv_if_ge (tgt := 467) hx hb dX12_boxes_459 (by decide) (fun c_15 => ?_) (fun c_15 => ?_)
        · show _
          refine lv_iload_n hx hb dX12_boxes_467 rfl (lv_at hl 3 rfl) ?_
          refine lv_bipush (v := 7) hx hb dX12_boxes_468 (by decide) ?_
          refine lv_irem hx hb dX12_boxes_470 (by decide) ?_
          refine lv_iadd hx hb dX12_boxes_471 ?_
          refine lv_iconst (v := 0) hx hb dX12_boxes_472 (by decide) ?_
          refine gV_i (C := RX12) (n := 2) (rest := [.int a0, .ref (g 9)]) hx hb hml hown hg hT (c_X12_make l dC dI g ty H.size (hsum H) Y pa kp ks I tl ac wr tw ρ pl P none (16 + (b0 - b0 / 7 * 7)) 0 (by exact rel) (by exact wf) (by exact Or.inl pre2) (by exact ⟨by decide, by decide⟩) (by exact cnt_ok hcnt pre5 pre8)) (cv_of hg wM_X12_128 wN_X12_make wL_X12_X12_make wK_X12_make wI_X12 (by decide +kernel) ⟨Nat.le_of_ble_eq_true rfl, Nat.le_of_ble_eq_true rfl⟩) hK hP hD hS hA (va_recv hK hP (ci := 14) (q0 := 0) rfl rfl) rfl hl.1 rfl (Nat.le_of_ble_eq_true rfl) dX12_boxes_473 ⟨by show 0 + 0 + (96000 - Y.2.2.2.2.2.2.2.1) ≤ 96000 - Y.2.2.2.2.2.2.2.1; omega, by show 0 + 0 + (10 * (96000 - Y.2.2.2.2.2.2.2.1) + 2 * (1542237 - Y.2.2.2.2.2.2.2.2.1)) ≤ 10 * (96000 - Y.2.2.2.2.2.2.2.1) + 2 * (1542237 - Y.2.2.2.2.2.2.2.2.1); omega⟩ (fun r_17 u_18 H locs q_16 hP hD hS => ?_)
          obtain ⟨r'_19, Y'_20, pa'_21, kp'_22, rfl, rfl, f_23⟩ := q_16
          have hP : va_P (dC, dI) vwCl (rW g ty Y'_20 pa'_21 kp'_22 ks I tl ac wr tw) H := hP
          have hD : va_D A (rW g ty Y'_20 pa'_21 kp'_22 ks I tl ac wr tw) := hD
          obtain ⟨ρ9, rel9, hk9, hth9, hn9, hle9, hgr9⟩ := f_23
          have hgr8 := hgr9.1
          have hgr7 := hgr9.2
          have hlc9 := rl_L rel9.1
          have hin9 : vp_in r'_19 Y'_20.2.2.2.2.2.2.2.1 := i32_in (i32_pos rel9.2.1.1).1 (by have := rel9.1.1.2; have := hth9.2; omega)
          refine va_iast hx hb hK hP hD hS 7 0 rfl rfl (by assumption) dX12_boxes_476 (fun H locs hP hD hS => ?_)
          have hP : va_P (dC, dI) vwCl (rW g ty Y'_20 (upd pa'_21 a0.toNatClampNeg r'_19) kp'_22 ks I tl ac wr tw) H := hP
          have hD : va_D A (rW g ty Y'_20 (upd pa'_21 a0.toNatClampNeg r'_19) kp'_22 ks I tl ac wr tw) := hD
          refine lv_aload_n hx hb dX12_boxes_477 rfl (lv_at hl 0 rfl) ?_
          refine va_get (D := (dC, dI)) (ci := 14) (v := .ref (g 14)) (C := RX12) (T := TX12) (N := 21) hx hb hg inG12 hown hK hP 0 rfl rfl 17 (by decide) (hg _ wF_X12_49) (fun _ h9 => h9) rfl dX12_boxes_478 ?_
          refine lv_iconst (v := 5) hx hb dX12_boxes_481 (by decide) ?_
          refine lv_dup2_11 hx hb dX12_boxes_482 rfl rfl ?_
          refine va_iald hx hb hK hP 12 0 rfl rfl (by exact i32_in (by decide) (by decide)) dX12_boxes_483 ?_
          refine lv_iconst (v := 1) hx hb dX12_boxes_484 (by decide) ?_
          refine lv_iadd hx hb dX12_boxes_485 ?_
          refine va_iast hx hb hK hP hD hS 12 0 rfl rfl (by exact i32_in (by decide) (by decide)) dX12_boxes_486 (fun H locs hP hD hS => ?_)
          have hP : va_P (dC, dI) vwCl (rW g ty Y'_20 (upd pa'_21 a0.toNatClampNeg r'_19) kp'_22 ks I (upd tl 5 ((tl 5) + 1)) ac wr tw) H := hP
          have hD : va_D A (rW g ty Y'_20 (upd pa'_21 a0.toNatClampNeg r'_19) kp'_22 ks I (upd tl 5 ((tl 5) + 1)) ac wr tw) := hD
          refine lv_lconst (v := 0) hx hb dX12_boxes_487 (by decide) ?_
          refine W.bound (fun gb1 gb2 => ?_)
          have gb1 : H.size ≤ s.heap.size + (0 + 0 + (Y'_20.2.2.2.2.2.2.2.1 - Y.2.2.2.2.2.2.2.1)) := gb1
          have gb2 : hsum H ≤ hsum s.heap + (0 + 0 + (10 * (Y'_20.2.2.2.2.2.2.2.1 - Y.2.2.2.2.2.2.2.1) + 2 * (Y'_20.2.2.2.2.2.2.2.2.1 - Y.2.2.2.2.2.2.2.2.1))) := gb2
          refine W.widen (k := 96000 - Y.2.2.2.2.2.2.2.1) (n := 10 * (96000 - Y.2.2.2.2.2.2.2.1) + 2 * (1542237 - Y.2.2.2.2.2.2.2.2.1)) (by show 0 + 0 + (Y'_20.2.2.2.2.2.2.2.1 - Y.2.2.2.2.2.2.2.1) ≤ 96000 - Y.2.2.2.2.2.2.2.1; omega) (by show 0 + 0 + (10 * (Y'_20.2.2.2.2.2.2.2.1 - Y.2.2.2.2.2.2.2.1) + 2 * (Y'_20.2.2.2.2.2.2.2.2.1 - Y.2.2.2.2.2.2.2.2.1)) ≤ 10 * (96000 - Y.2.2.2.2.2.2.2.1) + 2 * (1542237 - Y.2.2.2.2.2.2.2.2.1); omega) ?_
          refine gr_l (wo := fun u : rY × (Nat → Int32) × (Nat → Int32) × (Nat → Int32) × Int32 × Int32 => rW g ty u.1 u.2.1 u.2.2.1 ks I u.2.2.2.1 ac u.2.2.2.2.1 u.2.2.2.2.2) ((Y'_20, (upd pa'_21 a0.toNatClampNeg r'_19), kp'_22, (upd tl 5 ((tl 5) + 1)), wr, tw)) hx hb hr hlk hS hP hD (by show H.size ≤ sz + (Y'_20.2.2.2.2.2.2.2.1 - Y.2.2.2.2.2.2.2.1); rw [← hsz]; omega) (by show hsum H ≤ tot + (10 * (Y'_20.2.2.2.2.2.2.2.1 - Y.2.2.2.2.2.2.2.1) + 2 * (Y'_20.2.2.2.2.2.2.2.2.1 - Y.2.2.2.2.2.2.2.2.1)); rw [← htot]; omega) ?_ dX12_boxes_488
          exact ⟨0, Y'_20, (upd pa'_21 a0.toNatClampNeg r'_19), kp'_22, (upd tl 5 ((tl 5) + 1)), wr, tw, rfl, rfl, (by subst pre6; have hs9 : Y'_20.1 r'_19.toNatClampNeg = 16 + z := hn9.1.trans (by rw [g5, if_neg c_14, if_pos c_15]); exact ra_mk wf hcnt pre5 pre8 htl rel9 hth9 hle9 (by decide) hgr9 (by assumption) g4 (agr_pN g4) (nw_let hs9 (congrArg Int32.toNatClampNeg hn9.2.1)) rfl)⟩
        · show _
          refine lv_iload_n hx hb dX12_boxes_462 rfl (lv_at hl 3 rfl) ?_
          refine lv_ineg hx hb dX12_boxes_463 ?_
          refine lv_goto (tgt := 468) hx hb dX12_boxes_464 (by decide) ?_
          refine lv_bipush (v := 7) hx hb dX12_boxes_468 (by decide) ?_
          refine lv_irem hx hb dX12_boxes_470 (by decide) ?_
          refine lv_iadd hx hb dX12_boxes_471 ?_
          refine lv_iconst (v := 0) hx hb dX12_boxes_472 (by decide) ?_
          refine gV_i (C := RX12) (n := 2) (rest := [.int a0, .ref (g 9)]) hx hb hml hown hg hT (c_X12_make l dC dI g ty H.size (hsum H) Y pa kp ks I tl ac wr tw ρ pl P none (16 + ((-b0) - (-b0) / 7 * 7)) 0 (by exact rel) (by exact wf) (by exact Or.inl pre2) (by exact ⟨by decide, by decide⟩) (by exact cnt_ok hcnt pre5 pre8)) (cv_of hg wM_X12_128 wN_X12_make wL_X12_X12_make wK_X12_make wI_X12 (by decide +kernel) ⟨Nat.le_of_ble_eq_true rfl, Nat.le_of_ble_eq_true rfl⟩) hK hP hD hS hA (va_recv hK hP (ci := 14) (q0 := 0) rfl rfl) rfl hl.1 rfl (Nat.le_of_ble_eq_true rfl) dX12_boxes_473 ⟨by show 0 + 0 + (96000 - Y.2.2.2.2.2.2.2.1) ≤ 96000 - Y.2.2.2.2.2.2.2.1; omega, by show 0 + 0 + (10 * (96000 - Y.2.2.2.2.2.2.2.1) + 2 * (1542237 - Y.2.2.2.2.2.2.2.2.1)) ≤ 10 * (96000 - Y.2.2.2.2.2.2.2.1) + 2 * (1542237 - Y.2.2.2.2.2.2.2.2.1); omega⟩ (fun r_25 u_26 H locs q_24 hP hD hS => ?_)
          obtain ⟨r'_27, Y'_28, pa'_29, kp'_30, rfl, rfl, f_31⟩ := q_24
          have hP : va_P (dC, dI) vwCl (rW g ty Y'_28 pa'_29 kp'_30 ks I tl ac wr tw) H := hP
          have hD : va_D A (rW g ty Y'_28 pa'_29 kp'_30 ks I tl ac wr tw) := hD
          obtain ⟨ρ9, rel9, hk9, hth9, hn9, hle9, hgr9⟩ := f_31
          have hgr8 := hgr9.1
          have hgr7 := hgr9.2
          have hlc9 := rl_L rel9.1
          have hin9 : vp_in r'_27 Y'_28.2.2.2.2.2.2.2.1 := i32_in (i32_pos rel9.2.1.1).1 (by have := rel9.1.1.2; have := hth9.2; omega)
          refine va_iast hx hb hK hP hD hS 7 0 rfl rfl (by assumption) dX12_boxes_476 (fun H locs hP hD hS => ?_)
          have hP : va_P (dC, dI) vwCl (rW g ty Y'_28 (upd pa'_29 a0.toNatClampNeg r'_27) kp'_30 ks I tl ac wr tw) H := hP
          have hD : va_D A (rW g ty Y'_28 (upd pa'_29 a0.toNatClampNeg r'_27) kp'_30 ks I tl ac wr tw) := hD
          refine lv_aload_n hx hb dX12_boxes_477 rfl (lv_at hl 0 rfl) ?_
          refine va_get (D := (dC, dI)) (ci := 14) (v := .ref (g 14)) (C := RX12) (T := TX12) (N := 21) hx hb hg inG12 hown hK hP 0 rfl rfl 17 (by decide) (hg _ wF_X12_49) (fun _ h9 => h9) rfl dX12_boxes_478 ?_
          refine lv_iconst (v := 5) hx hb dX12_boxes_481 (by decide) ?_
          refine lv_dup2_11 hx hb dX12_boxes_482 rfl rfl ?_
          refine va_iald hx hb hK hP 12 0 rfl rfl (by exact i32_in (by decide) (by decide)) dX12_boxes_483 ?_
          refine lv_iconst (v := 1) hx hb dX12_boxes_484 (by decide) ?_
          refine lv_iadd hx hb dX12_boxes_485 ?_
          refine va_iast hx hb hK hP hD hS 12 0 rfl rfl (by exact i32_in (by decide) (by decide)) dX12_boxes_486 (fun H locs hP hD hS => ?_)
          have hP : va_P (dC, dI) vwCl (rW g ty Y'_28 (upd pa'_29 a0.toNatClampNeg r'_27) kp'_30 ks I (upd tl 5 ((tl 5) + 1)) ac wr tw) H := hP
          have hD : va_D A (rW g ty Y'_28 (upd pa'_29 a0.toNatClampNeg r'_27) kp'_30 ks I (upd tl 5 ((tl 5) + 1)) ac wr tw) := hD
          refine lv_lconst (v := 0) hx hb dX12_boxes_487 (by decide) ?_
          refine W.bound (fun gb1 gb2 => ?_)
          have gb1 : H.size ≤ s.heap.size + (0 + 0 + (Y'_28.2.2.2.2.2.2.2.1 - Y.2.2.2.2.2.2.2.1)) := gb1
          have gb2 : hsum H ≤ hsum s.heap + (0 + 0 + (10 * (Y'_28.2.2.2.2.2.2.2.1 - Y.2.2.2.2.2.2.2.1) + 2 * (Y'_28.2.2.2.2.2.2.2.2.1 - Y.2.2.2.2.2.2.2.2.1))) := gb2
          refine W.widen (k := 96000 - Y.2.2.2.2.2.2.2.1) (n := 10 * (96000 - Y.2.2.2.2.2.2.2.1) + 2 * (1542237 - Y.2.2.2.2.2.2.2.2.1)) (by show 0 + 0 + (Y'_28.2.2.2.2.2.2.2.1 - Y.2.2.2.2.2.2.2.1) ≤ 96000 - Y.2.2.2.2.2.2.2.1; omega) (by show 0 + 0 + (10 * (Y'_28.2.2.2.2.2.2.2.1 - Y.2.2.2.2.2.2.2.1) + 2 * (Y'_28.2.2.2.2.2.2.2.2.1 - Y.2.2.2.2.2.2.2.2.1)) ≤ 10 * (96000 - Y.2.2.2.2.2.2.2.1) + 2 * (1542237 - Y.2.2.2.2.2.2.2.2.1); omega) ?_
          refine gr_l (wo := fun u : rY × (Nat → Int32) × (Nat → Int32) × (Nat → Int32) × Int32 × Int32 => rW g ty u.1 u.2.1 u.2.2.1 ks I u.2.2.2.1 ac u.2.2.2.2.1 u.2.2.2.2.2) ((Y'_28, (upd pa'_29 a0.toNatClampNeg r'_27), kp'_30, (upd tl 5 ((tl 5) + 1)), wr, tw)) hx hb hr hlk hS hP hD (by show H.size ≤ sz + (Y'_28.2.2.2.2.2.2.2.1 - Y.2.2.2.2.2.2.2.1); rw [← hsz]; omega) (by show hsum H ≤ tot + (10 * (Y'_28.2.2.2.2.2.2.2.1 - Y.2.2.2.2.2.2.2.1) + 2 * (Y'_28.2.2.2.2.2.2.2.2.1 - Y.2.2.2.2.2.2.2.2.1)); rw [← htot]; omega) ?_ dX12_boxes_488
          exact ⟨0, Y'_28, (upd pa'_29 a0.toNatClampNeg r'_27), kp'_30, (upd tl 5 ((tl 5) + 1)), wr, tw, rfl, rfl, (by subst pre6; have hs9 : Y'_28.1 r'_27.toNatClampNeg = 16 + z := hn9.1.trans (by rw [g5, if_neg c_14, if_neg c_15, neg_sub]); exact ra_mk wf hcnt pre5 pre8 htl rel9 hth9 hle9 (by decide) hgr9 (by assumption) g4 (agr_pN g4) (nw_let hs9 (congrArg Int32.toNatClampNeg hn9.2.1)) rfl)⟩
      · show _
        refine lv_iconst (v := 0) hx hb dX12_boxes_454 (by decide) ?_
        refine lv_goto (tgt := 471) hx hb dX12_boxes_455 (by decide) ?_
        refine lv_iadd hx hb dX12_boxes_471 ?_
        refine lv_iconst (v := 0) hx hb dX12_boxes_472 (by decide) ?_
        refine gV_i (C := RX12) (n := 2) (rest := [.int a0, .ref (g 9)]) hx hb hml hown hg hT (c_X12_make l dC dI g ty H.size (hsum H) Y pa kp ks I tl ac wr tw ρ pl P none (16 + 0) 0 (by exact rel) (by exact wf) (by exact Or.inl pre2) (by exact ⟨by decide, by decide⟩) (by exact cnt_ok hcnt pre5 pre8)) (cv_of hg wM_X12_128 wN_X12_make wL_X12_X12_make wK_X12_make wI_X12 (by decide +kernel) ⟨Nat.le_of_ble_eq_true rfl, Nat.le_of_ble_eq_true rfl⟩) hK hP hD hS hA (va_recv hK hP (ci := 14) (q0 := 0) rfl rfl) rfl hl.1 rfl (Nat.le_of_ble_eq_true rfl) dX12_boxes_473 ⟨by show 0 + 0 + (96000 - Y.2.2.2.2.2.2.2.1) ≤ 96000 - Y.2.2.2.2.2.2.2.1; omega, by show 0 + 0 + (10 * (96000 - Y.2.2.2.2.2.2.2.1) + 2 * (1542237 - Y.2.2.2.2.2.2.2.2.1)) ≤ 10 * (96000 - Y.2.2.2.2.2.2.2.1) + 2 * (1542237 - Y.2.2.2.2.2.2.2.2.1); omega⟩ (fun r_33 u_34 H locs q_32 hP hD hS => ?_)
        obtain ⟨r'_35, Y'_36, pa'_37, kp'_38, rfl, rfl, f_39⟩ := q_32
        have hP : va_P (dC, dI) vwCl (rW g ty Y'_36 pa'_37 kp'_38 ks I tl ac wr tw) H := hP
        have hD : va_D A (rW g ty Y'_36 pa'_37 kp'_38 ks I tl ac wr tw) := hD
        obtain ⟨ρ9, rel9, hk9, hth9, hn9, hle9, hgr9⟩ := f_39
        have hgr8 := hgr9.1
        have hgr7 := hgr9.2
        have hlc9 := rl_L rel9.1
        have hin9 : vp_in r'_35 Y'_36.2.2.2.2.2.2.2.1 := i32_in (i32_pos rel9.2.1.1).1 (by have := rel9.1.1.2; have := hth9.2; omega)
        refine va_iast hx hb hK hP hD hS 7 0 rfl rfl (by assumption) dX12_boxes_476 (fun H locs hP hD hS => ?_)
        have hP : va_P (dC, dI) vwCl (rW g ty Y'_36 (upd pa'_37 a0.toNatClampNeg r'_35) kp'_38 ks I tl ac wr tw) H := hP
        have hD : va_D A (rW g ty Y'_36 (upd pa'_37 a0.toNatClampNeg r'_35) kp'_38 ks I tl ac wr tw) := hD
        refine lv_aload_n hx hb dX12_boxes_477 rfl (lv_at hl 0 rfl) ?_
        refine va_get (D := (dC, dI)) (ci := 14) (v := .ref (g 14)) (C := RX12) (T := TX12) (N := 21) hx hb hg inG12 hown hK hP 0 rfl rfl 17 (by decide) (hg _ wF_X12_49) (fun _ h9 => h9) rfl dX12_boxes_478 ?_
        refine lv_iconst (v := 5) hx hb dX12_boxes_481 (by decide) ?_
        refine lv_dup2_11 hx hb dX12_boxes_482 rfl rfl ?_
        refine va_iald hx hb hK hP 12 0 rfl rfl (by exact i32_in (by decide) (by decide)) dX12_boxes_483 ?_
        refine lv_iconst (v := 1) hx hb dX12_boxes_484 (by decide) ?_
        refine lv_iadd hx hb dX12_boxes_485 ?_
        refine va_iast hx hb hK hP hD hS 12 0 rfl rfl (by exact i32_in (by decide) (by decide)) dX12_boxes_486 (fun H locs hP hD hS => ?_)
        have hP : va_P (dC, dI) vwCl (rW g ty Y'_36 (upd pa'_37 a0.toNatClampNeg r'_35) kp'_38 ks I (upd tl 5 ((tl 5) + 1)) ac wr tw) H := hP
        have hD : va_D A (rW g ty Y'_36 (upd pa'_37 a0.toNatClampNeg r'_35) kp'_38 ks I (upd tl 5 ((tl 5) + 1)) ac wr tw) := hD
        refine lv_lconst (v := 0) hx hb dX12_boxes_487 (by decide) ?_
        refine W.bound (fun gb1 gb2 => ?_)
        have gb1 : H.size ≤ s.heap.size + (0 + 0 + (Y'_36.2.2.2.2.2.2.2.1 - Y.2.2.2.2.2.2.2.1)) := gb1
        have gb2 : hsum H ≤ hsum s.heap + (0 + 0 + (10 * (Y'_36.2.2.2.2.2.2.2.1 - Y.2.2.2.2.2.2.2.1) + 2 * (Y'_36.2.2.2.2.2.2.2.2.1 - Y.2.2.2.2.2.2.2.2.1))) := gb2
        refine W.widen (k := 96000 - Y.2.2.2.2.2.2.2.1) (n := 10 * (96000 - Y.2.2.2.2.2.2.2.1) + 2 * (1542237 - Y.2.2.2.2.2.2.2.2.1)) (by show 0 + 0 + (Y'_36.2.2.2.2.2.2.2.1 - Y.2.2.2.2.2.2.2.1) ≤ 96000 - Y.2.2.2.2.2.2.2.1; omega) (by show 0 + 0 + (10 * (Y'_36.2.2.2.2.2.2.2.1 - Y.2.2.2.2.2.2.2.1) + 2 * (Y'_36.2.2.2.2.2.2.2.2.1 - Y.2.2.2.2.2.2.2.2.1)) ≤ 10 * (96000 - Y.2.2.2.2.2.2.2.1) + 2 * (1542237 - Y.2.2.2.2.2.2.2.2.1); omega) ?_
        refine gr_l (wo := fun u : rY × (Nat → Int32) × (Nat → Int32) × (Nat → Int32) × Int32 × Int32 => rW g ty u.1 u.2.1 u.2.2.1 ks I u.2.2.2.1 ac u.2.2.2.2.1 u.2.2.2.2.2) ((Y'_36, (upd pa'_37 a0.toNatClampNeg r'_35), kp'_38, (upd tl 5 ((tl 5) + 1)), wr, tw)) hx hb hr hlk hS hP hD (by show H.size ≤ sz + (Y'_36.2.2.2.2.2.2.2.1 - Y.2.2.2.2.2.2.2.1); rw [← hsz]; omega) (by show hsum H ≤ tot + (10 * (Y'_36.2.2.2.2.2.2.2.1 - Y.2.2.2.2.2.2.2.1) + 2 * (Y'_36.2.2.2.2.2.2.2.2.1 - Y.2.2.2.2.2.2.2.2.1)); rw [← htot]; omega) ?_ dX12_boxes_488
        exact ⟨0, Y'_36, (upd pa'_37 a0.toNatClampNeg r'_35), kp'_38, (upd tl 5 ((tl 5) + 1)), wr, tw, rfl, rfl, (by subst pre6; have hs9 : Y'_36.1 r'_35.toNatClampNeg = 16 + z := hn9.1.trans (by rw [g5, if_pos c_14]); exact ra_mk wf hcnt pre5 pre8 htl rel9 hth9 hle9 (by decide) hgr9 (by assumption) g4 (agr_pN g4) (nw_let hs9 (congrArg Int32.toNatClampNeg hn9.2.1)) rfl)⟩

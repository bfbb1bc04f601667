/-! ===== the operations of a block ===== -/
theorem ctl_40 (ac : Int64) (Z : cZ) (a b : Int32) : zCtl ac Z 40 a b = (ac, zDn (zAt (zAll Z.2.2.2.2.2.2.2.2.2.2.2.toNatClampNeg Z) 256)) := by
  unfold zCtl
  rw [if_pos rfl]
theorem ctl_41 (ac : Int64) (Z : cZ) (a b : Int32) : zCtl ac Z 41 a b = (a.toInt64, zDn Z) := by
  unfold zCtl
  rw [if_neg (by decide), if_pos rfl]
theorem ctl_42 (ac : Int64) (Z : cZ) (a b : Int32) : zCtl ac Z 42 a b = (ac + a.toInt64, zDn Z) := by
  unfold zCtl
  rw [if_neg (by decide), if_neg (by decide), if_pos rfl]
theorem ctl_43 (ac : Int64) (Z : cZ) (a b : Int32) : zCtl ac Z 43 a b = (ac, if 0 ≤ lg_cmp ac 0 then zDn Z else zDn (zAt Z (zEn Z a))) := by
  unfold zCtl
  rw [if_neg (by decide), if_neg (by decide), if_neg (by decide), if_pos rfl]
theorem ctl_44 (ac : Int64) (Z : cZ) (a b : Int32) : zCtl ac Z 44 a b = (ac, zRep Z a b) := by
  unfold zCtl
  rw [if_neg (by decide), if_neg (by decide), if_neg (by decide), if_neg (by decide), if_pos rfl]
theorem ctl_45 (ac : Int64) (Z : cZ) (a b : Int32) : zCtl ac Z 45 a b = (ac, zOpen Z Z.2.1 (zEn Z a) 1 (b &&& 7)) := by
  unfold zCtl
  rw [if_neg (by decide), if_neg (by decide), if_neg (by decide), if_neg (by decide), if_neg (by decide), if_pos rfl]
/-- where the next o operations end -/
def rTo (e n o : Int32) : Int32 := if e - n ≤ (if o < 0 then 0 else o) then e else n + (if o < 0 then 0 else o)
theorem to_of {e n o a t : Int32} (ha : (0 ≤ o ∧ a = o) ∨ (¬ 0 ≤ o ∧ a = 0)) (ht : (a ≤ e - n ∧ t = n + a) ∨ (¬ a ≤ e - n ∧ t = e)) : t = rTo e n o := by
  have hA : (if o < 0 then 0 else o) = a := by
    rcases ha with ⟨h, rfl⟩ | ⟨h, rfl⟩
    · rw [if_neg (fun q => by rw [Int32.lt_iff_toInt_lt] at q; rw [Int32.le_iff_toInt_le] at h; omega)]
    · rw [if_pos (by rw [Int32.le_iff_toInt_le] at h; rw [Int32.lt_iff_toInt_lt]; omega)]
  unfold rTo
  rw [hA]
  rcases ht with ⟨h, rfl⟩ | ⟨h, rfl⟩
  · by_cases h2 : e - n ≤ a
    · rw [if_pos h2]
      exact en_sum (Int32.le_antisymm h2 h)
    · rw [if_neg h2]
  · rw [if_pos (by rw [Int32.le_iff_toInt_le] at h ⊢; omega)]
theorem to_bd {e n o : Int32} (h0 : 0 ≤ n) (h1 : n ≤ e) (h2 : e ≤ 256) : n ≤ rTo e n o ∧ rTo e n o ≤ e := by
  have hm := max0 o
  unfold rTo
  generalize (if o < 0 then 0 else o) = a at hm
  by_cases h : e - n ≤ a
  · rw [if_pos h]
    exact ⟨h1, Int32.le_refl _⟩
  · rw [if_neg h]
    have hn : 0 ≤ n ∧ n ≤ 256 := ⟨h0, Int32.le_trans h1 h2⟩
    have he : 0 ≤ e ∧ e ≤ 256 := ⟨Int32.le_trans h0 h1, h2⟩
    obtain ⟨e1, e2, -⟩ := en_in hn he hm h
    rw [Int32.le_iff_toInt_le, Int32.le_iff_toInt_le, e1]
    rw [Int32.le_iff_toInt_le, ci_0] at hm
    omega
theorem zEn_to {Z : cZ} {e n : Int32} (he : zEnd Z = e) (hn : Z.2.1 = n) (o : Int32) : zEn Z o = rTo e n o := by
  rw [← he, ← hn]
  rfl
/-- Zo is Z with one block more -/
def bUp (Z Zo : cZ) (nx to t c : Int32) : Prop := Zo.1 = Z.1 ∧ (Zo.2.2.2.2.2.2.2.2.2.2.2 = Z.2.2.2.2.2.2.2.2.2.2.2 + 1 ∧ Zo.2.2.2.2.2.2.2.2.2.2.2.toNatClampNeg = Z.2.2.2.2.2.2.2.2.2.2.2.toNatClampNeg + 1) ∧ (∀ k, k < Z.2.2.2.2.2.2.2.2.2.2.2.toNatClampNeg → Zo.2.2.2.2.2.2.2.1 k = Z.2.2.2.2.2.2.2.1 k ∧ Zo.2.2.2.2.2.2.2.2.1 k = Z.2.2.2.2.2.2.2.2.1 k ∧ Zo.2.2.2.2.2.2.2.2.2.1 k = Z.2.2.2.2.2.2.2.2.2.1 k ∧ Zo.2.2.2.2.2.2.2.2.2.2.1 k = Z.2.2.2.2.2.2.2.2.2.2.1 k) ∧
  Zo.2.2.2.2.2.2.2.1 Z.2.2.2.2.2.2.2.2.2.2.2.toNatClampNeg = nx ∧ Zo.2.2.2.2.2.2.2.2.1 Z.2.2.2.2.2.2.2.2.2.2.2.toNatClampNeg = to ∧ Zo.2.2.2.2.2.2.2.2.2.1 Z.2.2.2.2.2.2.2.2.2.2.2.toNatClampNeg = t ∧ Zo.2.2.2.2.2.2.2.2.2.2.1 Z.2.2.2.2.2.2.2.2.2.2.2.toNatClampNeg = c
section BUp
variable {Z Zo Z1 : cZ} {nx to t c : Int32}
theorem up_s (h : bUp Z Zo nx to t c) (hs : sS Zo Z1) : bUp Z Z1 nx to t c := by
  obtain ⟨h1, ⟨h2, h3⟩, h4, h5, h6, h7, h8⟩ := h
  have hd := hs.2.2 Z.2.2.2.2.2.2.2.2.2.2.2.toNatClampNeg (by omega)
  refine ⟨hs.1.trans h1, ⟨hs.2.1.trans h2, by rw [hs.2.1]; exact h3⟩, fun j hj => ?_, hd.1.trans h5, hd.2.1.trans h6, hd.2.2.1.trans h7, hd.2.2.2.trans h8⟩
  obtain ⟨a1, a2, a3, a4⟩ := hs.2.2 j (by omega)
  obtain ⟨b1, b2, b3, b4⟩ := h4 j hj
  exact ⟨a1.trans b1, a2.trans b2, a3.trans b3, a4.trans b4⟩
theorem up_pos (h : bUp Z Zo nx to t c) : ¬ Zo.2.2.2.2.2.2.2.2.2.2.2 ≤ 0 := by
  intro q
  have := c0_of q
  have := h.2.1.2
  omega
theorem up_ix (h : bUp Z Zo nx to t c) : (Zo.2.2.2.2.2.2.2.2.2.2.2 - 1).toNatClampNeg = Z.2.2.2.2.2.2.2.2.2.2.2.toNatClampNeg := by
  have hp := up_pos h
  rw [sub1_eq hp]
  have := down_eq hp
  have := h.2.1.2
  omega
theorem up_end (h : bUp Z Zo nx to t c) : zEnd Zo = to := by
  unfold zEnd
  rw [if_neg (up_pos h), up_ix h]
  exact h.2.2.2.2.1
theorem up_sta (h : bUp Z Zo nx to t c) : zSta Zo = nx := by
  unfold zSta
  rw [if_neg (up_pos h), up_ix h]
  exact h.2.2.2.1
theorem up_cat (h : bUp Z Zo nx to t c) : zCat Zo = c := by
  unfold zCat
  rw [if_neg (up_pos h), up_ix h]
  exact h.2.2.2.2.2.2
theorem up_due (h : bUp Z Zo nx to t c) : zDue Zo = decide (1 < t) := by
  unfold zDue
  rw [if_neg (fun q => up_pos h (by rw [q]; exact Int32.le_refl _)), up_ix h, h.2.2.2.2.2.1]
theorem up_dn (h : bUp Z Zo nx to t c) (h0 : Z1.1 = Zo.1) (h1 : Z1.2.2.2.2.2.2.2.2.2.2.2 = Zo.2.2.2.2.2.2.2.2.2.2.2 - 1) (h2 : Z1.2.2.2.2.2.2.2.1 = Zo.2.2.2.2.2.2.2.1 ∧ Z1.2.2.2.2.2.2.2.2.1 = Zo.2.2.2.2.2.2.2.2.1 ∧ Z1.2.2.2.2.2.2.2.2.2.1 = Zo.2.2.2.2.2.2.2.2.2.1 ∧ Z1.2.2.2.2.2.2.2.2.2.2.1 = Zo.2.2.2.2.2.2.2.2.2.2.1) : sS Z Z1 := by
  refine ⟨h0.trans h.1, ?_, fun j hj => ?_⟩
  · rw [h1, h.2.1.1]
    exact Int32.add_sub_cancel _ _
  · rw [h2.1, h2.2.1, h2.2.2.1, h2.2.2.2]
    exact h.2.2.1 j hj
theorem up_turn {t2 : Int32} (h : bUp Z Zo nx to t c) (h0 : Z1.1 = Zo.1) (h1 : Z1.2.2.2.2.2.2.2.2.2.2.2 = Zo.2.2.2.2.2.2.2.2.2.2.2) (h2 : Z1.2.2.2.2.2.2.2.1 = Zo.2.2.2.2.2.2.2.1 ∧ Z1.2.2.2.2.2.2.2.2.1 = Zo.2.2.2.2.2.2.2.2.1 ∧ Z1.2.2.2.2.2.2.2.2.2.2.1 = Zo.2.2.2.2.2.2.2.2.2.2.1) (h3 : Z1.2.2.2.2.2.2.2.2.2.1 = upd Zo.2.2.2.2.2.2.2.2.2.1 Z.2.2.2.2.2.2.2.2.2.2.2.toNatClampNeg t2) : bUp Z Z1 nx to t2 c := by
  obtain ⟨g1, ⟨g2, g3⟩, g4, g5, g6, g7, g8⟩ := h
  refine ⟨h0.trans g1, ⟨h1.trans g2, by rw [h1]; exact g3⟩, fun j hj => ?_, by rw [h2.1]; exact g5, by rw [h2.2.1]; exact g6, ?_, by rw [h2.2.2]; exact g8⟩
  · rw [h2.1, h2.2.1, h2.2.2, h3, upd_at', if_neg (by omega)]
    exact g4 j hj
  · rw [h3, upd_at', if_pos rfl]
theorem up_open (hs : sS Z Z1) (ho : zOk Z1) (hd : Z.2.2.2.2.2.2.2.2.2.2.2.toNatClampNeg < 200) : bUp Z (zOpen Z1 nx to t c) nx to t c ∧ zOpen Z1 nx to t c = (Z1.1, Z1.2.1, Z1.2.2.1, Z1.2.2.2.1, Z1.2.2.2.2.1, Z1.2.2.2.2.2.1, Z1.2.2.2.2.2.2.1, (upd Z1.2.2.2.2.2.2.2.1 Z1.2.2.2.2.2.2.2.2.2.2.2.toNatClampNeg nx), (upd Z1.2.2.2.2.2.2.2.2.1 Z1.2.2.2.2.2.2.2.2.2.2.2.toNatClampNeg to), (upd Z1.2.2.2.2.2.2.2.2.2.1 Z1.2.2.2.2.2.2.2.2.2.2.2.toNatClampNeg t), (upd Z1.2.2.2.2.2.2.2.2.2.2.1 Z1.2.2.2.2.2.2.2.2.2.2.2.toNatClampNeg c), (Z1.2.2.2.2.2.2.2.2.2.2.2 + 1)) := by
  have h0 := ho.1.1
  rw [hs.2.1] at h0
  have hn : ¬ 200 ≤ Z1.2.2.2.2.2.2.2.2.2.2.2 := by
    rw [hs.2.1]
    intro q
    have := i32_le q
    have e : (200 : Int32).toNatClampNeg = 200 := by decide
    omega
  have e : zOpen Z1 nx to t c = (Z1.1, Z1.2.1, Z1.2.2.1, Z1.2.2.2.1, Z1.2.2.2.2.1, Z1.2.2.2.2.2.1, Z1.2.2.2.2.2.2.1, (upd Z1.2.2.2.2.2.2.2.1 Z1.2.2.2.2.2.2.2.2.2.2.2.toNatClampNeg nx), (upd Z1.2.2.2.2.2.2.2.2.1 Z1.2.2.2.2.2.2.2.2.2.2.2.toNatClampNeg to), (upd Z1.2.2.2.2.2.2.2.2.2.1 Z1.2.2.2.2.2.2.2.2.2.2.2.toNatClampNeg t), (upd Z1.2.2.2.2.2.2.2.2.2.2.1 Z1.2.2.2.2.2.2.2.2.2.2.2.toNatClampNeg c), (Z1.2.2.2.2.2.2.2.2.2.2.2 + 1)) := if_neg hn
  refine ⟨?_, e⟩
  rw [e]
  have e1 : (1 : Int32).toNatClampNeg = 1 := by decide
  have ha := i32_add h0 (show (0 : Int32) ≤ 1 by decide) (by rw [e1]; omega)
  refine ⟨hs.1, ⟨?_, ?_⟩, fun j hj => ?_, ?_, ?_, ?_, ?_⟩
  · show Z1.2.2.2.2.2.2.2.2.2.2.2 + 1 = Z.2.2.2.2.2.2.2.2.2.2.2 + 1
    rw [hs.2.1]
  · show (Z1.2.2.2.2.2.2.2.2.2.2.2 + 1).toNatClampNeg = _
    rw [hs.2.1, ha.1, e1]
  · show upd _ _ _ j = _ ∧ upd _ _ _ j = _ ∧ upd _ _ _ j = _ ∧ upd _ _ _ j = _
    rw [hs.2.1]
    simp only [upd_at', if_neg (show ¬ j = Z.2.2.2.2.2.2.2.2.2.2.2.toNatClampNeg by omega)]
    exact hs.2.2 j hj
  · show upd _ Z1.2.2.2.2.2.2.2.2.2.2.2.toNatClampNeg _ _ = _
    rw [hs.2.1, upd_at', if_pos rfl]
  · show upd _ Z1.2.2.2.2.2.2.2.2.2.2.2.toNatClampNeg _ _ = _
    rw [hs.2.1, upd_at', if_pos rfl]
  · show upd _ Z1.2.2.2.2.2.2.2.2.2.2.2.toNatClampNeg _ _ = _
    rw [hs.2.1, upd_at', if_pos rfl]
  · show upd _ Z1.2.2.2.2.2.2.2.2.2.2.2.toNatClampNeg _ _ = _
    rw [hs.2.1, upd_at', if_pos rfl]
theorem up_close (h : bUp Z Zo nx to t c) : zClose Zo = (Zo.1, Zo.2.1, Zo.2.2.1, Zo.2.2.2.1 + 1, Zo.2.2.2.2.1, (if c = 6 then Zo.2.2.2.2.2.1 + 1 else Zo.2.2.2.2.2.1), Zo.2.2.2.2.2.2.1, Zo.2.2.2.2.2.2.2.1, Zo.2.2.2.2.2.2.2.2.1, Zo.2.2.2.2.2.2.2.2.2.1, Zo.2.2.2.2.2.2.2.2.2.2.1, Zo.2.2.2.2.2.2.2.2.2.2.2 - 1) := by
  have hp := up_pos h
  unfold zClose
  rw [up_cat h]
  by_cases h6 : c = 6
  · rw [if_pos h6, if_pos h6]
    exact if_neg hp
  · rw [if_neg h6, if_neg h6]
    exact if_neg hp
theorem up_c6 (h : bUp Z Zo nx to t c) : c6 Zo.2.2.2.2.2.2.2.2.2.2.1 Zo.2.2.2.2.2.2.2.2.2.2.2.toNatClampNeg = c6 Z.2.2.2.2.2.2.2.2.2.2.1 Z.2.2.2.2.2.2.2.2.2.2.2.toNatClampNeg + (if c = 6 then 1 else 0) := by
  rw [h.2.1.2]
  show c6 Zo.2.2.2.2.2.2.2.2.2.2.1 Z.2.2.2.2.2.2.2.2.2.2.2.toNatClampNeg + (if Zo.2.2.2.2.2.2.2.2.2.2.1 Z.2.2.2.2.2.2.2.2.2.2.2.toNatClampNeg = 6 then 1 else 0) = _
  rw [c6_eq (fun j hj => (h.2.2.1 j hj).2.2.2), h.2.2.2.2.2.2]
end BUp
section BOps
variable {Z : cZ} {e fm : Int32} {F : ((Nat → Option Nat) × Int64 × Int32 × Int32 × cZ × cQ)} {Y : rY} {pa : Nat → Int32} {I : rI} {tl : Nat → Int32} {ac : Int64} {k wr : Int32}
theorem bg_e (h : bGo Z e fm F Y pa I tl ac k) (he : zEnd Z = e) : 0 ≤ k + 1 ∧ k + 1 ≤ e ∧ 0 ≤ e ∧ e ≤ 256 ∧ (0 ≤ I.2.2.2.2.1 ∧ I.2.2.2.2.1 ≤ fm) := by
  obtain ⟨pl, P, md, Z2, N, X, hS, hs, hk, hke, hf, -⟩ := h
  have := zok_end hS.2.2.2
  rw [sS_end hs, he] at this
  rw [hS.2.1.1]
  exact ⟨hk ▸ hS.2.2.2.2.1.1, hke, this.1, this.2, hf⟩
theorem bg_stop (h : bGo Z e fm F Y pa I tl ac k) (hw : I.1 k.toNatClampNeg = 40) : bRes Z e fm F 1 Y pa I (upd tl 0 (tl 0 + 1)) ac wr := by
  obtain ⟨pl, P, md, Z2, N, X, hS, hs, hk, hke, hf, hm, hX⟩ := h
  rw [hw] at hX
  rcases hX with ⟨rfl, -⟩ | ⟨_, _, hx, _⟩
  rotate_left
  · exact absurd hx (by decide)
  rw [ctl_40] at hm
  obtain ⟨c1, c2, c3, c4, c5, c6_, c7, c8⟩ := zAll_eff _ Z2 rfl hS.2.2.2.1.1
  have hl : zLv (zDn (zAt (zAll Z2.2.2.2.2.2.2.2.2.2.2.2.toNatClampNeg Z2) 256)) = zDn (zAt (zAll Z2.2.2.2.2.2.2.2.2.2.2.2.toNatClampNeg Z2) 256) := lv_0 (by
    show (zAll Z2.2.2.2.2.2.2.2.2.2.2.2.toNatClampNeg Z2).2.2.2.2.2.2.2.2.2.2.2 ≤ 0
    rw [c8]
    decide)
  have hF : F = (pl, ac, -1, md, zDn (zAt (zAll Z2.2.2.2.2.2.2.2.2.2.2.2.toNatClampNeg Z2) 256), P) := by
    have := mStc_stop hm (fun q => q.2 (by
      show 256 ≤ (zLv (zDn (zAt (zAll Z2.2.2.2.2.2.2.2.2.2.2.2.toNatClampNeg Z2) 256))).2.1
      rw [hl]
      exact Int32.le_refl _))
    rw [this]
    show (_, _, _, _, zLv (zDn (zAt (zAll Z2.2.2.2.2.2.2.2.2.2.2.2.toNatClampNeg Z2) 256)), _) = _
    rw [hl]
  subst hF
  have hcc : c6 Z2.2.2.2.2.2.2.2.2.2.2.1 Z2.2.2.2.2.2.2.2.2.2.2.2.toNatClampNeg = c6 Z.2.2.2.2.2.2.2.2.2.2.1 Z.2.2.2.2.2.2.2.2.2.2.2.toNatClampNeg := by
    rw [hs.2.1]
    exact c6_eq (fun j hj => (hs.2.2 j hj).2.2.2)
  have hnd : nI Z2.2.2.2.2.2.2.2.2.2.2.2.toNatClampNeg = Z2.2.2.2.2.2.2.2.2.2.2.2 := by
    have hv : vp_in Z2.2.2.2.2.2.2.2.2.2.2.2 201 := i32_in hS.2.2.2.1.1 (by
      have := i32_le hS.2.2.2.1.2
      have e9 : (200 : Int32).toNatClampNeg = 200 := by decide
      omega)
    exact (i32_nI hv).1.symm
  obtain ⟨⟨d1, d2⟩, ⟨d3, d4, d5, d6⟩, d7⟩ := hS.2
  obtain ⟨a1, a2, a3, a4, a5⟩ := hS.1
  refine Or.inr (Or.inl ⟨Or.inl rfl, _, Or.inl ⟨rfl, Int32.le_refl _, rfl⟩, rfl, rfl, ⟨a1, a2, a3, a4, a5⟩, ⟨?_, ?_⟩, ⟨?_, ?_, ?_, ?_⟩, zok_dn (zok_at (zok_all _ d7) (by decide)), c8⟩)
  · show _ = (zAll Z2.2.2.2.2.2.2.2.2.2.2.2.toNatClampNeg Z2).2.2.1
    rw [c5]; exact d1
  · show ∀ k, k < 256 → _ = (zAll Z2.2.2.2.2.2.2.2.2.2.2.2.toNatClampNeg Z2).1 _ ∧ _ = (zAll Z2.2.2.2.2.2.2.2.2.2.2.2.toNatClampNeg Z2).1 _ ∧ _ = (zAll Z2.2.2.2.2.2.2.2.2.2.2.2.toNatClampNeg Z2).1 _ ∧ _ = (zAll Z2.2.2.2.2.2.2.2.2.2.2.2.toNatClampNeg Z2).1 _
    rw [c6_]
    exact d2
  · show tl 0 + 1 + Z.2.2.2.2.2.2.2.2.2.2.2 = (zAll Z2.2.2.2.2.2.2.2.2.2.2.2.toNatClampNeg Z2).2.2.2.1 + 1
    rw [c1, ← hs.2.1, hnd, d3, Int32.add_assoc, Int32.add_comm 1, Int32.add_assoc]
  · show tl 1 = (zAll Z2.2.2.2.2.2.2.2.2.2.2.2.toNatClampNeg Z2).2.2.2.2.1
    rw [c3]; exact d4
  · show tl 2 + _ = (zAll Z2.2.2.2.2.2.2.2.2.2.2.2.toNatClampNeg Z2).2.2.2.2.2.1
    rw [c2, hcc, d5]
  · show tl 3 = (zAll Z2.2.2.2.2.2.2.2.2.2.2.2.toNatClampNeg Z2).2.2.2.2.2.2.1
    rw [c4]; exact d6
/-- an operation that is just done, and where it goes on -/
theorem bg_dn {nx : Int32} {ac2 : Int64} (h : bGo Z e fm F Y pa I tl ac k) (hc : ∀ Z2 : cZ, sS Z Z2 → Z2.2.1 = k + 1 → zOk Z2 → zCtl ac Z2 (I.1 k.toNatClampNeg) (I.2.1 k.toNatClampNeg) (I.2.2.1 k.toNatClampNeg) = (ac2, zDn (zAt Z2 nx))) (hw : ¬ (I.1 k.toNatClampNeg < 40 ∨ 45 < I.1 k.toNatClampNeg)) (hn : (0 ≤ nx ∧ nx ≤ 256) ∧ nx ≤ e) : bInv Z e fm F Y pa I (upd tl 0 (tl 0 + 1)) ac2 nx := by
  obtain ⟨pl, P, md, Z2, N, X, hS, hs, hk, hke, hf, hm, hX⟩ := h
  rcases hX with ⟨rfl, -⟩ | ⟨_, _, hx, _⟩
  rotate_left
  · exact absurd hx hw
  rw [hc Z2 hs hk hS.2.2.2] at hm
  obtain ⟨⟨d1, d2⟩, ⟨d3, d4, d5, d6⟩, d7⟩ := hS.2
  refine ⟨pl, P, md, zDn (zAt Z2 nx), N, bs_to hS rfl rfl rfl ⟨?_, d4, d5, d6⟩ (zok_dn (zok_at d7 hn.1)), sS_to hs rfl rfl ⟨rfl, rfl, rfl, rfl⟩, rfl, hn.2, hf, hm⟩
  show tl 0 + 1 = Z2.2.2.2.1 + 1
  rw [d3]
theorem at_same {Z2 : cZ} {n : Int32} (h : Z2.2.1 = n) : zAt Z2 n = Z2 := by
  rw [← h]
  rfl
theorem bg_nx (h : bGo Z e fm F Y pa I tl ac k) (he : zEnd Z = e) : (0 ≤ k + 1 ∧ k + 1 ≤ 256) ∧ k + 1 ≤ e := by
  obtain ⟨h1, h2, h3, h4, -⟩ := bg_e h he
  exact ⟨⟨h1, Int32.le_trans h2 h4⟩, h2⟩
theorem bg_set (h : bGo Z e fm F Y pa I tl ac k) (he : zEnd Z = e) (hw : I.1 k.toNatClampNeg = 41) : bInv Z e fm F Y pa I (upd tl 0 (tl 0 + 1)) (I.2.1 k.toNatClampNeg).toInt64 (k + 1) :=
  bg_dn h (fun Z2 _ ha _ => by rw [hw, ctl_41, at_same ha]) (by rw [hw]; decide) (bg_nx h he)
theorem bg_add (h : bGo Z e fm F Y pa I tl ac k) (he : zEnd Z = e) (hw : I.1 k.toNatClampNeg = 42) : bInv Z e fm F Y pa I (upd tl 0 (tl 0 + 1)) (ac + (I.2.1 k.toNatClampNeg).toInt64) (k + 1) :=
  bg_dn h (fun Z2 _ ha _ => by rw [hw, ctl_42, at_same ha]) (by rw [hw]; decide) (bg_nx h he)
theorem bg_stay (h : bGo Z e fm F Y pa I tl ac k) (he : zEnd Z = e) (hw : I.1 k.toNatClampNeg = 43) (hc : 0 ≤ lg_cmp ac 0) : bInv Z e fm F Y pa I (upd tl 0 (tl 0 + 1)) ac (k + 1) :=
  bg_dn h (fun Z2 _ ha _ => by rw [hw, ctl_43, at_same ha, if_pos hc]) (by rw [hw]; decide) (bg_nx h he)
theorem bg_tob (h : bGo Z e fm F Y pa I tl ac k) (he : zEnd Z = e) {to : Int32} (ht : to = rTo e (k + 1) (I.2.1 k.toNatClampNeg)) : k + 1 ≤ to ∧ to ≤ e ∧ 0 ≤ to ∧ to ≤ 256 := by
  obtain ⟨h1, h2, h3, h4, -⟩ := bg_e h he
  have := to_bd (o := I.2.1 k.toNatClampNeg) h1 h2 h4
  rw [← ht] at this
  exact ⟨this.1, this.2, Int32.le_trans h1 this.1, Int32.le_trans this.2 h4⟩
theorem bg_jmp (h : bGo Z e fm F Y pa I tl ac k) (he : zEnd Z = e) (hw : I.1 k.toNatClampNeg = 43) (hc : ¬ 0 ≤ lg_cmp ac 0) {to : Int32} (ht : to = rTo e (k + 1) (I.2.1 k.toNatClampNeg)) : bInv Z e fm F Y pa I (upd tl 0 (tl 0 + 1)) ac to := by
  obtain ⟨t1, t2, t3, t4⟩ := bg_tob h he ht
  exact bg_dn h (fun Z2 hs ha _ => by rw [hw, ctl_43, if_neg hc, zEn_to ((sS_end hs).trans he) ha, ht]) (by rw [hw]; decide) ⟨⟨t3, t4⟩, t2⟩
theorem bg_try (h : bGo Z e fm F Y pa I tl ac k) (he : zEnd Z = e) (hd : Z.2.2.2.2.2.2.2.2.2.2.2.toNatClampNeg < 200) (hw : I.1 k.toNatClampNeg = 45) {to : Int32} (ht : to = rTo e (k + 1) (I.2.1 k.toNatClampNeg)) : ∃ Zo : cZ, bUp Z Zo (k + 1) to 1 (I.2.2.1 k.toNatClampNeg &&& 7) ∧ bInv Zo to fm F Y pa I tl ac (k + 1) := by
  obtain ⟨t1, t2, t3, t4⟩ := bg_tob h he ht
  obtain ⟨⟨n1, n2⟩, -⟩ := bg_nx h he
  obtain ⟨pl, P, md, Z2, N, X, hS, hs, hk, hke, hf, hm, hX⟩ := h
  rw [hw] at hX
  rcases hX with ⟨rfl, -⟩ | ⟨_, _, hx, _⟩
  rotate_left
  · exact absurd hx (by decide)
  rw [ctl_45, zEn_to ((sS_end hs).trans he) hk, hk, ← ht] at hm
  obtain ⟨u1, u2⟩ := up_open (nx := k + 1) (to := to) (t := 1) (c := I.2.2.1 k.toNatClampNeg &&& 7) hs hS.2.2.2 hd
  obtain ⟨⟨d1, d2⟩, ⟨d3, d4, d5, d6⟩, d7⟩ := hS.2
  have ho := zok_open (t := 1) (k := I.2.2.1 k.toNatClampNeg &&& 7) d7 ⟨n1, n2⟩ ⟨t3, t4⟩
  refine ⟨_, u1, pl, P, md, _, N, bs_to hS ?_ ?_ rfl ⟨?_, ?_, ?_, ?_⟩ ho, sS_rf _, ?_, t1, ?_, hm⟩
  · rw [u2]
  · rw [u2]
  · rw [u2]; exact d3
  · rw [u2]; exact d4
  · rw [u2]; exact d5
  · rw [u2]; exact d6
  · rw [u2]; exact hk
  · rw [u2]; exact hf
end BOps

/-! ===== small rows for the walk of room ===== -/
section GWalk
variable {Y : rY} {pa kp : Nat → Int32} {ρ : Nat → Nat} {pl : Nat → Option Nat} {P : cQ} {E : Nat → Prop} {td hd td2 hd2 : Nat → Int32} {wa v t : Int32}
theorem ga_in (hL : rLay Y) (h0 : ¬ t < 0) (h : ¬ Y.2.2.2.2.2.2.2.2.2.1 ≤ t) : vp_in t Y.2.2.2.2.2.2.2.1 := i32_in (nn_of h0) (by have := k1_lt h0 h; have := hL.1.2; omega)
theorem ga_up {h : Nat → Int32} (a2 : ∀ j, j < t.toNatClampNeg → h j = 0) (h0 : ¬ t < 0) {n : Int32} (hn : ¬ n ≤ t) : ∀ j, j < (t + 1).toNatClampNeg → updZ h t.toNatClampNeg 0 j = 0 := by
  intro j hj
  rw [up1_clamp h0 hn] at hj
  rw [updZ_0]
  split
  · rfl
  · exact a2 j (by omega)
theorem ga_all {h : Nat → Int32} {n : Int32} (a2 : ∀ j, j < t.toNatClampNeg → h j = 0) (hn : n ≤ t) : ∀ j, j < n.toNatClampNeg → h j = 0 := fun j hj => a2 j (by have := i32_le hn; omega)
theorem rk_pos {n : Int32} (h : rR n Y pa ρ pl P) {x : Int32} (hx : vp_in x 32) (hz : ¬ pa x.toNatClampNeg = 0) : 0 < pa x.toNatClampNeg ∧ pa x.toNatClampNeg < n := ⟨(rk_some h hx (rk_pl h hx hz)).1, (rk_some h hx (rk_pl h hx hz)).2.1⟩
theorem c32 (h0 : ¬ t < 0) (h : ¬ 32 ≤ t) : vp_in t 32 := cin_of h0 h ci_32
theorem gx_same {f : Nat → Int32} {n m : Int32} (hv : f t.toNatClampNeg = 0 ∨ (0 < f t.toNatClampNeg ∧ f t.toNatClampNeg < n)) (h : f t.toNatClampNeg = 0 ∨ ¬ hd (f t.toNatClampNeg).toNatClampNeg = 0) (h0 : ¬ t < 0) (hn : ¬ m ≤ t) (b : ∀ q, q < t.toNatClampNeg → gOk n hd (f q)) : ∀ q, q < (t + 1).toNatClampNeg → gOk n hd (f q) := by
  intro q hq
  rw [up1_clamp h0 hn] at hq
  by_cases e : q = t.toNatClampNeg
  · subst e
    rcases h with h | h
    · exact Or.inl h
    · rcases hv with hv | hv
      · exact Or.inl hv
      · exact Or.inr ⟨hv.1, hv.2, h⟩
  · exact b q (by omega)
theorem gx_new {f : Nat → Int32} {n m : Int32} {s : Nat} (h : gOk n (updZ hd s 1) (f t.toNatClampNeg)) (h0 : ¬ t < 0) (hn : ¬ m ≤ t) (b : ∀ q, q < t.toNatClampNeg → gOk n hd (f q)) : ∀ q, q < (t + 1).toNatClampNeg → gOk n (updZ hd s 1) (f q) := by
  intro q hq
  rw [up1_clamp h0 hn] at hq
  by_cases e : q = t.toNatClampNeg
  · subst e; exact h
  · exact gOk_up (b q (by omega))
theorem gx_end {f : Nat → Int32} {n m : Int32} (b : ∀ q, q < t.toNatClampNeg → gOk n hd (f q)) (h : m ≤ t) : ∀ q, q < m.toNatClampNeg → gOk n hd (f q) := fun q hq => b q (by have := i32_le h; omega)
theorem gx_up {f : Nat → Int32} {n : Int32} {m s : Nat} (b : ∀ q, q < m → gOk n hd (f q)) : ∀ q, q < m → gOk n (updZ hd s 1) (f q) := fun q hq => gOk_up (b q hq)
theorem rk_va {n : Int32} (h : rR n Y pa ρ pl P) {x : Int32} (hx : vp_in x 32) : pa x.toNatClampNeg = 0 ∨ (0 < pa x.toNatClampNeg ∧ pa x.toNatClampNeg < n) := by
  by_cases hz : pa x.toNatClampNeg = 0
  · exact Or.inl hz
  · exact Or.inr (rk_pos h hx hz)
theorem va_in {n : Int32} (h : rR n Y pa ρ pl P) {v : Int32} (hv : v = 0 ∨ (0 < v ∧ v < n)) : v = 0 ∨ vp_in v Y.2.2.2.2.2.2.2.1 := by
  rcases hv with e | ⟨a, b⟩
  · exact Or.inl e
  · exact Or.inr (rk_in h a b).1
theorem va_pos {v n : Int32} (hv : v = 0 ∨ (0 < v ∧ v < n)) (hz : ¬ v = 0) : 0 < v ∧ v < n := hv.resolve_left hz
theorem vin_0 (hL : rLay Y) : vp_in 0 Y.2.2.2.2.2.2.2.1 := by
  have h1 := (i32_pos hL.1.1).2.2
  have h2 := hL.1.2
  have e : (0 : Int32).toNatClampNeg = 0 := by decide
  exact i32_in (by decide) (by rw [e]; omega)
theorem va_in0 {n : Int32} (h : rR n Y pa ρ pl P) {v : Int32} (hv : v = 0 ∨ (0 < v ∧ v < n)) : vp_in v Y.2.2.2.2.2.2.2.1 := by
  rcases hv with e | ⟨a, b⟩
  · rw [e]; exact vin_0 h.1
  · exact (rk_in h a b).1
/-- the one that is kept -/
theorem gk_at {ks : Int32} {ko : Option Nat} (hk : ks = 0 ∨ (ks = 1 ∧ rLk Y.2.2.2.2.2.2.2.2.2.1 ρ (kp 0) ko)) (h0 : ¬ t < 0) (h : ¬ ks ≤ t) : t.toNatClampNeg = 0 ∧ vp_in t 2 ∧ rLk Y.2.2.2.2.2.2.2.2.2.1 ρ (kp t.toNatClampNeg) ko := by
  rw [Int32.lt_iff_toInt_lt, ci_0] at h0
  rw [Int32.le_iff_toInt_le] at h
  rcases hk with e | ⟨e, hr⟩
  · rw [e, ci_0] at h; omega
  · rw [e, ci_1] at h
    have et : t = 0 := Int32.toInt_inj.mp (by rw [ci_0]; omega)
    subst et
    exact ⟨by decide, i32_in (by decide) (by decide), hr⟩
theorem lk_va {n : Int32} {v : Int32} {o : Option Nat} (h : rLk n ρ v o) : v = 0 ∨ (0 < v ∧ v < n) := by
  rcases h with ⟨e, _⟩ | ⟨a, b, _⟩
  · exact Or.inl e
  · exact Or.inr ⟨a, b⟩
/-- indices of cells -/
theorem gix (hL : rLay Y) (t1 : 1 ≤ t.toNatClampNeg) (t2 : t.toNatClampNeg < Y.2.2.2.2.2.2.2.2.2.1.toNatClampNeg) {k : Int32} (h0 : ¬ k < 0) (h : ¬ Y.2.2.1 t.toNatClampNeg ≤ k) : vp_in k (rMn Y t.toNatClampNeg) ∧ (Y.2.1 t.toNatClampNeg + k).toNatClampNeg = rFr Y t.toNatClampNeg + k.toNatClampNeg ∧ k.toNatClampNeg < rMn Y t.toNatClampNeg ∧ vp_in (Y.2.1 t.toNatClampNeg + k) Y.2.2.2.2.2.2.2.2.1 := by
  have hk := k1_lt h0 h
  obtain ⟨f0, m0, hle⟩ := hL.2.2.2.1 _ t1 t2
  have hC := (rl_L hL).2
  have hp := hL.2.1.2
  have hk : k.toNatClampNeg < rMn Y t.toNatClampNeg := hk
  have ha := i32_add f0 (nn_of h0) (by have : rFr Y t.toNatClampNeg + k.toNatClampNeg < 2147483648 := by omega
                                       exact this)
  exact ⟨i32_in (nn_of h0) hk, ha.1, hk, i32_in ha.2 (by rw [ha.1]; have : rFr Y t.toNatClampNeg + k.toNatClampNeg < Y.2.2.2.2.2.2.2.2.1 := by omega
                                                         exact this)⟩
/-- what a link holds -/
theorem gl_at (wf : cWF pl P) (rel : rR Y.2.2.2.2.2.2.2.2.2.1 Y pa ρ pl P) {s i : Nat} (s1 : 1 ≤ s) (s2 : s < Y.2.2.2.2.2.2.2.2.2.1.toNatClampNeg) (hi : i < rMn Y s) (hl : (8 ≤ Y.1 s ∧ Y.1 s ≤ 11) ∨ (12 ≤ Y.1 s ∧ Y.1 s ≤ 14 ∧ i = 1)) : ∃ o, rLl Y.2.2.2.2.2.2.2.2.2.1 ρ (Y.2.2.2.2.2.1 (rFr Y s + i)) o := by
  have H := rel.2.2.1 s s1 s2
  have K := ki_sr wf H.1.1 H.1.2.1
  rw [← H.1.2.2] at K
  have hk := H.1.2.1
  have e8 : (8 : Int32).toInt = 8 := by decide
  have e11 : (11 : Int32).toInt = 11 := by decide
  have e12 : (12 : Int32).toInt = 12 := by decide
  have e14 : (14 : Int32).toInt = 14 := by decide
  have e15 : (15 : Int32).toInt = 15 := by decide
  simp only [Int32.le_iff_toInt_le, Int32.lt_iff_toInt_lt, e8, e11, e12, e14, e15] at hl K
  have hc : P.2.1 (ρ s) < 3 ∨ P.2.1 (ρ s) = 3 ∨ P.2.1 (ρ s) = 4 ∨ P.2.1 (ρ s) = 5 ∨ P.2.1 (ρ s) = 6 := by omega
  rcases hc with h | h | h | h | h
  · have := K.2.1 h
    have hi1 : i = 1 := by omega
    subst hi1
    exact ⟨_, H.2.2.2.2.1 h⟩
  · have h9 := K.2.2.2.1 h
    rw [h9, e15] at hl; omega
  · have := K.2.2.2.2 h; omega
  · have := K.2.2.1 h; omega
  · obtain ⟨r, hr, _⟩ := wf.2.2.2.1 (ρ s) H.1.1 h
    have h9 := H.2.2.1 h r hr
    exact ⟨_, h9.2 i (by rw [← h9.1]; exact hi)⟩
theorem ll_va {n : Int32} {v : Int64} {o : Option Nat} (h : rLl n ρ v o) : v.toInt32 = 0 ∨ (0 < v.toInt32 ∧ v.toInt32 < n) := by
  obtain ⟨x, rfl, hk⟩ := h
  rw [i64_32]
  exact lk_va hk
theorem gl_va (wf : cWF pl P) (rel : rR Y.2.2.2.2.2.2.2.2.2.1 Y pa ρ pl P) (t1 : 1 ≤ t.toNatClampNeg) (t2 : t.toNatClampNeg < Y.2.2.2.2.2.2.2.2.2.1.toNatClampNeg) {k : Int32} (h0 : ¬ k < 0) (h : ¬ Y.2.2.1 t.toNatClampNeg ≤ k) (hl : rLn Y t.toNatClampNeg k) : (Y.2.2.2.2.2.1 (Y.2.1 t.toNatClampNeg + k).toNatClampNeg).toInt32 = 0 ∨ (0 < (Y.2.2.2.2.2.1 (Y.2.1 t.toNatClampNeg + k).toNatClampNeg).toInt32 ∧ (Y.2.2.2.2.2.1 (Y.2.1 t.toNatClampNeg + k).toNatClampNeg).toInt32 < Y.2.2.2.2.2.2.2.2.2.1) := by
  obtain ⟨_, e, hk, _⟩ := gix rel.1 t1 t2 h0 h
  obtain ⟨o, ho⟩ := gl_at wf rel t1 t2 hk (by
    rcases hl with q | ⟨q1, q2, q3⟩
    · exact Or.inl q
    · exact Or.inr ⟨q1, q2, by rw [q3]; decide⟩)
  rw [e]
  exact ll_va ho
/-- the cells of the thing t that were looked at -/
def gE (Y : rY) (hd : Nat → Int32) (t k : Int32) : Prop := ∀ j : Int32, vp_in j k.toNatClampNeg → rLn Y t.toNatClampNeg j → gOk Y.2.2.2.2.2.2.2.2.2.1 hd (Y.2.2.2.2.2.1 (Y.2.1 t.toNatClampNeg + j).toNatClampNeg).toInt32
theorem gE_0 : gE Y hd t 0 := by
  intro j hj _
  have h := (i32_inR hj).2
  have e : (0 : Int32).toNatClampNeg = 0 := by decide
  rw [e] at h
  omega
theorem gE_up {k m : Int32} (h0 : ¬ k < 0) (hm : ¬ m ≤ k) (h : gE Y hd t k) (hn : rLn Y t.toNatClampNeg k → gOk Y.2.2.2.2.2.2.2.2.2.1 hd (Y.2.2.2.2.2.1 (Y.2.1 t.toNatClampNeg + k).toNatClampNeg).toInt32) : gE Y hd t (k + 1) := by
  intro j hj hl
  have hj9 := i32_inR hj
  rw [up1_clamp h0 hm] at hj9
  by_cases e : j.toNatClampNeg = k.toNatClampNeg
  · have e2 : j = k := by
      have a := nn_of h0
      have b := hj9.1
      rw [Int32.le_iff_toInt_le, ci_0] at a b
      have e : j.toInt.toNat = k.toInt.toNat := e
      exact Int32.toInt_inj.mp (by omega)
    subst e2
    exact hn hl
  · exact h j (i32_in hj9.1 (by omega)) hl
theorem gE_mono {k : Int32} {s : Nat} (h : gE Y hd t k) : gE Y (updZ hd s 1) t k := fun j hj hl => gOk_up (h j hj hl)
theorem gE_cl {k : Int32} (h : gE Y hd t k) (hk : Y.2.2.1 t.toNatClampNeg ≤ k) : gCl Y hd t.toNatClampNeg := fun j hj hl => h j (i32_in (i32_inR hj).1 (Nat.lt_of_lt_of_le (i32_inR hj).2 (i32_le hk))) hl
theorem gOk_va {v n : Int32} (hv : v = 0 ∨ (0 < v ∧ v < n)) (h : v = 0 ∨ ¬ hd v.toNatClampNeg = 0) : gOk n hd v := by
  rcases h with h | h
  · exact Or.inl h
  · rcases hv with q | q
    · exact Or.inl q
    · exact Or.inr ⟨q.1, q.2, h⟩
/-- counting -/
theorem gf_no {m lf : Int32} (h0 : ¬ t < 0) (hm : ¬ m ≤ t) (hz : hd t.toNatClampNeg = 0) (f3 : 0 ≤ lf ∧ lf.toNatClampNeg = 1 + hc hd t.toNatClampNeg) : 0 ≤ lf ∧ lf.toNatClampNeg = 1 + hc hd (t + 1).toNatClampNeg := by
  rw [up1_clamp h0 hm, hc_s, if_pos hz]; exact f3
theorem gf_yes {m lf : Int32} (h0 : ¬ t < 0) (hm : ¬ m ≤ t) (hb : m.toNatClampNeg ≤ 96000) (hz : ¬ hd t.toNatClampNeg = 0) (f3 : 0 ≤ lf ∧ lf.toNatClampNeg = 1 + hc hd t.toNatClampNeg) : 0 ≤ lf + 1 ∧ (lf + 1).toNatClampNeg = 1 + hc hd (t + 1).toNatClampNeg := by
  rw [up1_clamp h0 hm, hc_s, if_neg hz]
  have h1 := hc_le hd t.toNatClampNeg
  have h2 := k1_lt h0 hm
  have := i32_add f3.1 (show (0 : Int32) ≤ 1 by decide) (by have e : (1 : Int32).toNatClampNeg = 1 := by decide
                                                            rw [e, f3.2]; omega)
  refine ⟨this.2, ?_⟩
  have e : (1 : Int32).toNatClampNeg = 1 := by decide
  rw [this.1, e, f3.2]; omega
theorem gf_uno {m uf : Int32} (h0 : ¬ t < 0) (hm : ¬ m ≤ t) (hz : hd t.toNatClampNeg = 0) (f4 : 0 ≤ uf ∧ uf.toNatClampNeg = us hd (rMn Y) t.toNatClampNeg) : 0 ≤ uf ∧ uf.toNatClampNeg = us hd (rMn Y) (t + 1).toNatClampNeg := by
  rw [up1_clamp h0 hm, us_s, if_pos hz]; exact f4
theorem gf_uyes {uf : Int32} (hL : rLay Y) (z0 : hd 0 = 0) (h0 : ¬ t < 0) (hm : ¬ Y.2.2.2.2.2.2.2.2.2.1 ≤ t) (t1 : 1 ≤ t.toNatClampNeg) (hz : ¬ hd t.toNatClampNeg = 0) (f4 : 0 ≤ uf ∧ uf.toNatClampNeg = us hd (rMn Y) t.toNatClampNeg) : 0 ≤ uf + Y.2.2.1 t.toNatClampNeg ∧ (uf + Y.2.2.1 t.toNatClampNeg).toNatClampNeg = us hd (rMn Y) (t + 1).toNatClampNeg := by
  have t2 := k1_lt h0 hm
  have hu := (us_F (hd := hd) hL z0 (t.toNatClampNeg + 1) t2).1
  rw [us_s, if_neg hz] at hu
  have hC := (rl_L hL).2
  have hp := hL.2.1.2
  have := i32_add f4.1 (hL.2.2.2.1 _ t1 t2).2.1 (by rw [f4.2]; have : us hd (rMn Y) t.toNatClampNeg + rMn Y t.toNatClampNeg < 2147483648 := by omega
                                                    exact this)
  refine ⟨this.2, ?_⟩
  rw [this.1, f4.2, up1_clamp h0 hm, us_s, if_neg hz]
theorem gf_tno {m : Int32} (h0 : ¬ t < 0) (hm : ¬ m ≤ t) (hz : hd t.toNatClampNeg = 0) (h : gTd hd td t.toNatClampNeg) : gTd hd td (t + 1).toNatClampNeg := by
  rw [up1_clamp h0 hm]
  intro s a b c
  by_cases e : s = t.toNatClampNeg
  · subst e; exact absurd hz c
  · exact h s a (by omega) c
theorem gf_tyes {m lf : Int32} (h0 : ¬ t < 0) (hm : ¬ m ≤ t) (f3 : 0 ≤ lf ∧ lf.toNatClampNeg = 1 + hc hd t.toNatClampNeg) (h : gTd hd td t.toNatClampNeg) : gTd hd (upd td t.toNatClampNeg lf) (t + 1).toNatClampNeg := by
  rw [up1_clamp h0 hm]
  intro s a b c
  by_cases e : s = t.toNatClampNeg
  · subst e; rw [upd_at', if_pos rfl]; exact f3
  · rw [upd_at', if_neg e]; exact h s a (by omega) c
theorem gf_t1 {m : Int32} (h0 : ¬ t < 0) (hm : ¬ m ≤ t) (h : 1 ≤ t.toNatClampNeg) : 1 ≤ (t + 1).toNatClampNeg := by rw [up1_clamp h0 hm]; omega
theorem gf_eq {m : Int32} (h1 : t ≤ m) (h2 : m ≤ t) : t = m := Int32.le_antisymm h1 h2
theorem gf_td0 {n : Nat} (h : gTd hd td n) : gTd hd (upd td 0 0) n ∧ upd td 0 0 0 = 0 := ⟨fun s a b c => by rw [upd_at', if_neg (by omega)]; exact h s a b c, by rw [upd_at', if_pos rfl]⟩
end GWalk

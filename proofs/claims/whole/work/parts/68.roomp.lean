/-! ===== room ===== -/
theorem ks_nn {Y : rY} {kp : Nat → Int32} {ρ : Nat → Nat} {ks : Int32} {ko : Option Nat} (hk : ks = 0 ∨ (ks = 1 ∧ rLk Y.2.2.2.2.2.2.2.2.2.1 ρ (kp 0) ko)) : 0 ≤ ks := by
  rcases hk with e | ⟨e, _⟩ <;> rw [e] <;> decide
theorem one_le {n : Int32} (h : 0 < n) : 1 ≤ n := by
  rw [Int32.lt_iff_toInt_lt, ci_0] at h
  rw [Int32.le_iff_toInt_le, ci_1]
  omega
theorem gi_1 {hd : Nat → Int32} (h0 : hd 0 = 0) : (0 : Int32) ≤ 1 ∧ (1 : Int32).toNatClampNeg = 1 + hc hd (1 : Int32).toNatClampNeg := by
  have e : (1 : Int32).toNatClampNeg = 1 := by decide
  rw [e, hc_s, if_pos h0]
  exact ⟨by decide, rfl⟩
theorem gi_u {hd : Nat → Int32} {m : Nat → Nat} (h0 : hd 0 = 0) : (0 : Int32) ≤ 0 ∧ (0 : Int32).toNatClampNeg = us hd m (1 : Int32).toNatClampNeg := by
  have e : (1 : Int32).toNatClampNeg = 1 := by decide
  rw [e, us_s, if_pos h0]
  exact ⟨by decide, rfl⟩
theorem gi_t {hd td : Nat → Int32} : gTd hd td (1 : Int32).toNatClampNeg := by
  have e : (1 : Int32).toNatClampNeg = 1 := by decide
  rw [e]
  exact fun s a b _ => absurd b (by omega)
theorem ge_n {n h : Nat} {w : Int32} (hw : ¬ w ≤ 0) : 2 * (n - h) + (w + (-1)).toNatClampNeg < 2 * (n - h) + w.toNatClampNeg := by
  have := down_lt hw; omega
theorem ge_m {n h h' N : Nat} {w : Int32} (h1 : 2 * (n - h) + w.toNatClampNeg < N) (h2 : h' = h + 1) (h3 : (w + 1).toNatClampNeg = w.toNatClampNeg + 1) (h4 : h' ≤ n) : 2 * (n - h') + (w + 1).toNatClampNeg < N := by omega
theorem ge_c {Y : rY} {E E' : Nat → Prop} {td hd td' hd' : Nat → Int32} {w w' : Int32} (h : gM Y E td hd w) (e : hc hd' Y.2.2.2.2.2.2.2.2.2.1.toNatClampNeg = hc hd Y.2.2.2.2.2.2.2.2.2.1.toNatClampNeg + 1) (h' : gM Y E' td' hd' w') : hc hd' Y.2.2.2.2.2.2.2.2.2.1.toNatClampNeg ≤ Y.2.2.2.2.2.2.2.2.2.1.toNatClampNeg := hc_le _ _
theorem gi_p1 {td f f1 : Nat → Int32} {t n : Int32} (h0 : ¬ t < 0) (hn : ¬ n ≤ t) (i2 : ∀ q, q < t.toNatClampNeg → f1 q = td (f q).toNatClampNeg) (i3 : ∀ q, t.toNatClampNeg ≤ q → f1 q = f q) : ∀ q, q < (t + 1).toNatClampNeg → upd f1 t.toNatClampNeg (td (f1 t.toNatClampNeg).toNatClampNeg) q = td (f q).toNatClampNeg := by
  intro q hq
  rw [up1_clamp h0 hn] at hq
  rw [upd_at']
  by_cases e : q = t.toNatClampNeg
  · rw [if_pos e, e, i3 _ (Nat.le_refl _)]
  · rw [if_neg e]; exact i2 q (by omega)
theorem gi_p2 {f f1 : Nat → Int32} {t n x : Int32} (h0 : ¬ t < 0) (hn : ¬ n ≤ t) (i3 : ∀ q, t.toNatClampNeg ≤ q → f1 q = f q) : ∀ q, (t + 1).toNatClampNeg ≤ q → upd f1 t.toNatClampNeg x q = f q := by
  intro q hq
  rw [up1_clamp h0 hn] at hq
  rw [upd_at', if_neg (by omega)]
  exact i3 q (by omega)
theorem gg_to {Y : rY} {hd : Nat → Int32} {to t m : Int32} (hL : rLay Y) (z0 : hd 0 = 0) (h0 : ¬ t < 0) (hm : ¬ Y.2.2.2.2.2.2.2.2.2.1 ≤ t) (t1 : 1 ≤ t.toNatClampNeg) (hz : ¬ hd t.toNatClampNeg = 0) (f4 : 0 ≤ to ∧ to.toNatClampNeg = us hd (rMn Y) t.toNatClampNeg) (e : m = Y.2.2.1 t.toNatClampNeg) : 0 ≤ to + m ∧ (to + m).toNatClampNeg = us hd (rMn Y) (t + 1).toNatClampNeg := by
  rw [e]; exact gf_uyes hL z0 h0 hm t1 hz f4
theorem gg_u {hd : Nat → Int32} {u : Int32} {t : Nat} (z0 : hd 0 = 0) (t1 : 1 ≤ t) (h : u.toNatClampNeg = 1 + hc hd t) : u.toNatClampNeg ≤ t := by rw [h]; exact rk_le z0 t1
theorem gg_k {Y : rY} {t : Nat} {m k : Int32} (e : m = Y.2.2.1 t) (h : m ≤ k) : rMn Y t ≤ k.toNatClampNeg := by
  have := i32_le h
  rw [e] at this
  exact this
theorem gg_uin {Y : rY} {hd : Nat → Int32} {u : Int32} {t : Nat} {L2 : Nat} (hL : Y.2.2.2.2.2.2.2.2.2.1.toNatClampNeg ≤ L2) (z0 : hd 0 = 0) (t1 : 1 ≤ t) (t2 : t < Y.2.2.2.2.2.2.2.2.2.1.toNatClampNeg) (h : 0 ≤ u ∧ u.toNatClampNeg = 1 + hc hd t) : vp_in u L2 := i32_in h.1 (by have := gg_u z0 t1 h.2; omega)
/-- where a cell goes -/
theorem gg_at {Y : rY} {hd : Nat → Int32} {to k : Int32} {t C2 : Nat} (hL : rLay Y) (z0 : hd 0 = 0) (t1 : 1 ≤ t) (t2 : t < Y.2.2.2.2.2.2.2.2.2.1.toNatClampNeg) (hz : ¬ hd t = 0) (g3 : 0 ≤ to ∧ to.toNatClampNeg = us hd (rMn Y) t) (h0 : ¬ k < 0) (hk : k.toNatClampNeg < rMn Y t) (hC2 : Y.2.2.2.2.2.2.2.2.2.2.toNatClampNeg ≤ C2) : (to + k).toNatClampNeg = us hd (rMn Y) t + k.toNatClampNeg ∧ vp_in (to + k) C2 := by
  have hu := (us_F (hd := hd) hL z0 (t + 1) t2).1
  rw [us_s, if_neg hz] at hu
  have hC := (rl_L hL).2
  have hp := hL.2.1.2
  have ha := i32_add g3.1 (nn_of h0) (by rw [g3.2]; omega)
  rw [g3.2] at ha
  exact ⟨ha.1, i32_in ha.2 (by rw [ha.1]; omega)⟩
theorem gg_vl {Y : rY} {td : Nat → Int32} {c1 : Nat → Int64} {f s k : Int32} {t : Nat} (hs : s = Y.1 t) (he : (f + k).toNatClampNeg = rFr Y t + k.toNatClampNeg) (h2 : gCs Y c1 t k.toNatClampNeg) (hk : k.toNatClampNeg < rMn Y t) (hl : (8 ≤ s ∧ s ≤ 11) ∨ (12 ≤ s ∧ s ≤ 14 ∧ k = 1)) : (td (c1 (f + k).toNatClampNeg).toInt32.toNatClampNeg).toInt64 = gNc Y td t k.toNatClampNeg := by
  rw [gNc_ln, he, h2.1 _ (Nat.le_refl _) hk]
  rw [← hs]
  rcases hl with q | ⟨q1, q2, q3⟩
  · exact Or.inl q
  · exact Or.inr ⟨q1, q2, by rw [q3]; decide⟩
theorem gg_vn {Y : rY} {td : Nat → Int32} {c1 : Nat → Int64} {f s k : Int32} {t : Nat} (hs : s = Y.1 t) (h0 : ¬ k < 0) (he : (f + k).toNatClampNeg = rFr Y t + k.toNatClampNeg) (h2 : gCs Y c1 t k.toNatClampNeg) (hk : k.toNatClampNeg < rMn Y t) (hl : ¬ ((8 ≤ s ∧ s ≤ 11) ∨ (12 ≤ s ∧ s ≤ 14 ∧ k = 1))) : c1 (f + k).toNatClampNeg = gNc Y td t k.toNatClampNeg := by
  rw [gNc_no, he, h2.1 _ (Nat.le_refl _) hk]
  rw [← hs]
  rintro (q | ⟨q1, q2, q3⟩)
  · exact hl (Or.inl q)
  · refine hl (Or.inr ⟨q1, q2, ?_⟩)
    have a := nn_of h0
    rw [Int32.le_iff_toInt_le, ci_0] at a
    have q3 : k.toInt.toNat = 1 := q3
    exact Int32.toInt_inj.mp (by rw [ci_1]; omega)
theorem gg_lv {Y : rY} {pa : Nat → Int32} {ρ : Nat → Nat} {pl : Nat → Option Nat} {P : cQ} {c1 : Nat → Int64} {f s k : Int32} {t : Nat} (wf : cWF pl P) (rel : rR Y.2.2.2.2.2.2.2.2.2.1 Y pa ρ pl P) (t1 : 1 ≤ t) (t2 : t < Y.2.2.2.2.2.2.2.2.2.1.toNatClampNeg) (hs : s = Y.1 t) (he : (f + k).toNatClampNeg = rFr Y t + k.toNatClampNeg) (h2 : gCs Y c1 t k.toNatClampNeg) (hk : k.toNatClampNeg < rMn Y t) (hl : (8 ≤ s ∧ s ≤ 11) ∨ (12 ≤ s ∧ s ≤ 14 ∧ k = 1)) : vp_in (c1 (f + k).toNatClampNeg).toInt32 Y.2.2.2.2.2.2.2.1 := by
  rw [he, h2.1 _ (Nat.le_refl _) hk]
  obtain ⟨o, ho⟩ := gl_at wf rel t1 t2 hk (by
    rw [← hs]
    rcases hl with q | ⟨q1, q2, q3⟩
    · exact Or.inl q
    · exact Or.inr ⟨q1, q2, by rw [q3]; decide⟩)
  exact va_in0 (Y := Y) rel (ll_va ho)
theorem gn_1 {s k : Int32} (h1 : ¬ (8 ≤ s ∧ s ≤ 11)) (h2 : ¬ (12 ≤ s ∧ s ≤ 14 ∧ k = 1)) : ¬ ((8 ≤ s ∧ s ≤ 11) ∨ (12 ≤ s ∧ s ≤ 14 ∧ k = 1)) := by
  rintro (q | q)
  · exact h1 q
  · exact h2 q
/-- lengths -/
theorem nl_L {Y : rY} (hL : rLay Y) : (2 * Int32.ofNat Y.2.2.2.2.2.2.2.1).toNatClampNeg = 2 * Y.2.2.2.2.2.2.2.1 ∧ ¬ 2 * Int32.ofNat Y.2.2.2.2.2.2.2.1 < 0 := by
  have h := (rl_L hL).1
  have e1 : (Int32.ofNat Y.2.2.2.2.2.2.2.1).toInt = Y.2.2.2.2.2.2.2.1 := nI_toInt (by omega)
  have e2 : (2 : Int32).toInt = 2 := by decide
  have e : (2 * Int32.ofNat Y.2.2.2.2.2.2.2.1).toInt = 2 * Y.2.2.2.2.2.2.2.1 := by
    rw [Int32.toInt_mul, e1, e2]
    exact Int.bmod_eq_of_le (by omega) (by omega)
  refine ⟨?_, ?_⟩
  · show (2 * Int32.ofNat Y.2.2.2.2.2.2.2.1).toInt.toNat = _
    rw [e]; omega
  · rw [Int32.lt_iff_toInt_lt, e, ci_0]; omega
theorem nl_C {Y : rY} (hL : rLay Y) {n : Int32} (hn : 0 ≤ n ∧ n.toNatClampNeg ≤ 99) : (2 * Int32.ofNat Y.2.2.2.2.2.2.2.2.1 + n).toNatClampNeg = 2 * Y.2.2.2.2.2.2.2.2.1 + n.toNatClampNeg ∧ ¬ 2 * Int32.ofNat Y.2.2.2.2.2.2.2.2.1 + n < 0 := by
  have h := (rl_L hL).2
  obtain ⟨n0, n1⟩ := hn
  rw [Int32.le_iff_toInt_le, ci_0] at n0
  have n1 : n.toInt.toNat ≤ 99 := n1
  have e1 : (Int32.ofNat Y.2.2.2.2.2.2.2.2.1).toInt = Y.2.2.2.2.2.2.2.2.1 := nI_toInt (by omega)
  have e2 : (2 : Int32).toInt = 2 := by decide
  have e3 : (2 * Int32.ofNat Y.2.2.2.2.2.2.2.2.1).toInt = 2 * Y.2.2.2.2.2.2.2.2.1 := by
    rw [Int32.toInt_mul, e1, e2]
    exact Int.bmod_eq_of_le (by omega) (by omega)
  have e : (2 * Int32.ofNat Y.2.2.2.2.2.2.2.2.1 + n).toInt = 2 * Y.2.2.2.2.2.2.2.2.1 + n.toInt := by
    rw [Int32.toInt_add, e3]
    exact Int.bmod_eq_of_le (by omega) (by omega)
  refine ⟨?_, ?_⟩
  · show (2 * Int32.ofNat Y.2.2.2.2.2.2.2.2.1 + n).toInt.toNat = 2 * Y.2.2.2.2.2.2.2.2.1 + n.toInt.toNat
    rw [e]; omega
  · rw [Int32.lt_iff_toInt_lt, e, ci_0]; omega
theorem nl_2 {n : Nat} (h : n ≤ 96000) : (Int32.ofNat n).toNatClampNeg = n ∧ ¬ Int32.ofNat n < 0 := by
  have e1 : (Int32.ofNat n).toInt = n := nI_toInt (by omega)
  refine ⟨?_, ?_⟩
  · show (Int32.ofNat n).toInt.toNat = _
    rw [e1]; omega
  · rw [Int32.lt_iff_toInt_lt, e1, ci_0]; omega
/-- twice as long fits, where room is wanted -/
theorem nl_fit {Y : rY} (hL : rLay Y) {n : Nat} (hn : n ≤ 99) (hc1 : Y.2.2.2.2.2.2.2.2.2.1.toNatClampNeg ≤ 54001 ∧ Y.2.2.2.2.2.2.2.2.2.2.toNatClampNeg ≤ 594000) (ht : Y.2.2.2.2.2.2.2.2.2.1.toNatClampNeg = Y.2.2.2.2.2.2.2.1 ∨ Y.2.2.2.2.2.2.2.2.1 < Y.2.2.2.2.2.2.2.2.2.2.toNatClampNeg + n) :
    2 * Y.2.2.2.2.2.2.2.1 ≤ 96000 ∧ 2 * Y.2.2.2.2.2.2.2.2.1 + n ≤ 1542237 ∧ 1500 ≤ Y.2.2.2.2.2.2.2.1 ∧ ∃ i : Nat, i ≤ 6 ∧ 2 * Y.2.2.2.2.2.2.2.1 = 1500 * 2 ^ i ∧ 24000 * 2 ^ i ≤ 2 * Y.2.2.2.2.2.2.2.2.1 + n ∧ 2 * Y.2.2.2.2.2.2.2.2.1 + n + 99 ≤ 24099 * 2 ^ i := by
  obtain ⟨i, h1, h2, h3, h4⟩ := hL.2.2.1
  have hi : i ≤ 5 := by
    rcases (show i = 0 ∨ i = 1 ∨ i = 2 ∨ i = 3 ∨ i = 4 ∨ i = 5 ∨ i = 6 by omega) with rfl | rfl | rfl | rfl | rfl | rfl | rfl <;> omega
  refine ⟨?_, ?_, ?_, i + 1, by omega, ?_, ?_, ?_⟩ <;>
    rcases (show i = 0 ∨ i = 1 ∨ i = 2 ∨ i = 3 ∨ i = 4 ∨ i = 5 by omega) with rfl | rfl | rfl | rfl | rfl | rfl <;> omega
/-- what room leaves: the same things and places, under new numbers; room for one more -/
def rRoom (n0 : Int32) (Y : rY) (ks : Int32) (pl : Nat → Option Nat) (P : cQ) (ko : Option Nat) (Y' : rY) (pa' kp' : Nat → Int32) : Prop :=
  ∃ ρ' : Nat → Nat, rR Y'.2.2.2.2.2.2.2.2.2.1 Y' pa' ρ' pl P ∧ (ks = 0 ∨ (ks = 1 ∧ rLk Y'.2.2.2.2.2.2.2.2.2.1 ρ' (kp' 0) ko)) ∧
    (Y'.2.2.2.2.2.2.2.2.2.1.toNatClampNeg ≤ Y.2.2.2.2.2.2.2.2.2.1.toNatClampNeg ∧ Y'.2.2.2.2.2.2.2.2.2.2.toNatClampNeg ≤ Y.2.2.2.2.2.2.2.2.2.2.toNatClampNeg) ∧
    (Y'.2.2.2.2.2.2.2.2.2.1.toNatClampNeg < Y'.2.2.2.2.2.2.2.1 ∧ Y'.2.2.2.2.2.2.2.2.2.2.toNatClampNeg + n0.toNatClampNeg ≤ Y'.2.2.2.2.2.2.2.2.1) ∧ (Y.2.2.2.2.2.2.2.1 ≤ Y'.2.2.2.2.2.2.2.1 ∧ Y.2.2.2.2.2.2.2.2.1 ≤ Y'.2.2.2.2.2.2.2.2.1)
section RoomEnd
variable {Y : rY} {pa kp pa2 kp2 : Nat → Int32} {ρ : Nat → Nat} {pl : Nat → Option Nat} {P : cQ} {td hd s2 f2 m2 td2 hd2 : Nat → Int32} {c2 : Nat → Int64} {ad2 : Nat → Nat} {L2 C2 : Nat} {lv to ks n0 : Int32} {ko : Option Nat}
theorem rm_end (wf : cWF pl P) (rel : rR Y.2.2.2.2.2.2.2.2.2.1 Y pa ρ pl P) (hk : ks = 0 ∨ (ks = 1 ∧ rLk Y.2.2.2.2.2.2.2.2.2.1 ρ (kp 0) ko)) (h0 : hd 0 = 0) (hcl : ∀ t, 1 ≤ t → t < Y.2.2.2.2.2.2.2.2.2.1.toNatClampNeg → ¬ hd t = 0 → gCl Y hd t) (hT : gTd hd td Y.2.2.2.2.2.2.2.2.2.1.toNatClampNeg) (ht0 : td 0 = 0) (hl : 0 ≤ lv ∧ lv.toNatClampNeg = 1 + hc hd Y.2.2.2.2.2.2.2.2.2.1.toNatClampNeg) (hto : 0 ≤ to ∧ to.toNatClampNeg = us hd (rMn Y) Y.2.2.2.2.2.2.2.2.2.1.toNatClampNeg)
    (hD : gD Y hd s2 f2 m2 Y.2.2.2.2.2.2.2.2.2.1.toNatClampNeg) (hC : gCd Y td hd c2 Y.2.2.2.2.2.2.2.2.2.1.toNatClampNeg 0) (hpa : ∀ p, p < 32 → gOk Y.2.2.2.2.2.2.2.2.2.1 hd (pa p)) (hkp : ∀ p, p < ks.toNatClampNeg → gOk Y.2.2.2.2.2.2.2.2.2.1 hd (kp p)) (hpa2 : ∀ p, p < 32 → pa2 p = td (pa p).toNatClampNeg) (hkp2 : ∀ p, p < ks.toNatClampNeg → kp2 p = td (kp p).toNatClampNeg)
    (hLL : ∃ i : Nat, i ≤ 6 ∧ L2 = 1500 * 2 ^ i ∧ 24000 * 2 ^ i ≤ C2 ∧ C2 + 99 ≤ 24099 * 2 ^ i) (hgr : Y.2.2.2.2.2.2.2.1 ≤ L2 ∧ Y.2.2.2.2.2.2.2.2.1 ≤ C2) (hrm : lv.toNatClampNeg < L2 ∧ to.toNatClampNeg + n0.toNatClampNeg ≤ C2) : rRoom n0 Y ks pl P ko (s2, f2, m2, td2, hd2, c2, ad2, L2, C2, lv, to) pa2 kp2 := by
  have hth := i32_pos rel.1.1.1
  have hlt : hc hd Y.2.2.2.2.2.2.2.2.2.1.toNatClampNeg + 1 ≤ Y.2.2.2.2.2.2.2.2.2.1.toNatClampNeg := hc_lt h0 hth.2.2
  have hu := (us_F (hd := hd) rel.1 h0 Y.2.2.2.2.2.2.2.2.2.1.toNatClampNeg (Nat.le_refl _)).1
  refine ⟨gRho Y.2.2.2.2.2.2.2.2.2.1.toNatClampNeg hd ρ, gc_fin wf rel h0 hcl hT ht0 hl hto hD hC hpa hpa2 ⟨by have := rel.1.1.2; omega, by have := rel.1.2.1.2; omega, hLL⟩, ?_, ⟨?_, ?_⟩, hrm, hgr⟩
  · rcases hk with e | ⟨e, hr⟩
    · exact Or.inl e
    · refine Or.inr ⟨e, ?_⟩
      have e1 : (0 : Nat) < ks.toNatClampNeg := by rw [e]; decide
      rw [hkp2 0 e1]
      exact gLk hT ht0 hl (hkp 0 e1) hr
  · show lv.toNatClampNeg ≤ _
    rw [hl.2]; omega
  · show to.toNatClampNeg ≤ _
    rw [hto.2]; exact hu
end RoomEnd
theorem nl_le {L : Nat} {a : Int32} (hL : L ≤ 96000) (ha : 0 ≤ a ∧ a.toNatClampNeg ≤ 96000) (h : ¬ Int32.ofNat L < 2 * a) (h1 : 1 ≤ a.toNatClampNeg) : a.toNatClampNeg < L := by
  obtain ⟨a0, a1⟩ := ha
  rw [Int32.le_iff_toInt_le, ci_0] at a0
  have a1 : a.toInt.toNat ≤ 96000 := a1
  have h1 : 1 ≤ a.toInt.toNat := h1
  have e1 : (Int32.ofNat L).toInt = L := nI_toInt (by omega)
  have e2 : (2 : Int32).toInt = 2 := by decide
  have e : (2 * a).toInt = 2 * a.toInt := by
    rw [Int32.toInt_mul, e2]
    exact Int.bmod_eq_of_le (by omega) (by omega)
  rw [Int32.lt_iff_toInt_lt, e1, e] at h
  show a.toInt.toNat < L
  omega
theorem nl_leC {C : Nat} {a n : Int32} (hC : C ≤ 1542237) (ha : 0 ≤ a ∧ a.toNatClampNeg ≤ C) (hn : 0 ≤ n ∧ n.toNatClampNeg ≤ 99) (h : 2 * (a + n) ≤ Int32.ofNat C) : a.toNatClampNeg + n.toNatClampNeg ≤ C := by
  obtain ⟨a0, a1⟩ := ha
  obtain ⟨n0, n1⟩ := hn
  rw [Int32.le_iff_toInt_le, ci_0] at a0 n0
  have a1 : a.toInt.toNat ≤ C := a1
  have n1 : n.toInt.toNat ≤ 99 := n1
  have e1 : (Int32.ofNat C).toInt = C := nI_toInt (by omega)
  have e2 : (2 : Int32).toInt = 2 := by decide
  have e3 : (a + n).toInt = a.toInt + n.toInt := by
    rw [Int32.toInt_add]
    exact Int.bmod_eq_of_le (by omega) (by omega)
  have e : (2 * (a + n)).toInt = 2 * (a.toInt + n.toInt) := by
    rw [Int32.toInt_mul, e3, e2]
    exact Int.bmod_eq_of_le (by omega) (by omega)
  rw [Int32.le_iff_toInt_le, e1, e] at h
  show a.toInt.toNat + n.toInt.toNat ≤ C
  omega


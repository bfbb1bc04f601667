/-! ===== what is written, and the relation ===== -/
section RWr
variable {n : Int32} {Y : rY} {pa : Nat → Int32} {ρ : Nat → Nat} {pl : Nat → Option Nat} {P : cQ} {v : Int32}
/-- a cell of v is no cell of another -/
theorem rd_ne (hL : rLay Y) {t s i j : Nat} (t1 : 1 ≤ t) (t2 : t < Y.2.2.2.2.2.2.2.2.2.1.toNatClampNeg) (s1 : 1 ≤ s) (s2 : s < Y.2.2.2.2.2.2.2.2.2.1.toNatClampNeg) (hne : ¬ t = s) (hi : i < rMn Y t) (hj : j < rMn Y s) : ¬ rFr Y t + i = rFr Y s + j := by
  rcases Nat.lt_or_gt_of_ne hne with q | q
  · have := hL.2.2.2.2 t s t1 q s2; omega
  · have := hL.2.2.2.2 s t s1 q t2; omega
theorem rd_lay {a : Nat} {x : Int64} (hL : rLay Y) : rLay (Y.1, Y.2.1, Y.2.2.1, Y.2.2.2.1, Y.2.2.2.2.1, vp_updL Y.2.2.2.2.2.1 a x, Y.2.2.2.2.2.2.1, Y.2.2.2.2.2.2.2.1, Y.2.2.2.2.2.2.2.2.1, Y.2.2.2.2.2.2.2.2.2.1, Y.2.2.2.2.2.2.2.2.2.2) := hL
/-- another thing keeps its cells -/
theorem rd_oth (h : rR n Y pa ρ pl P) {t s k : Nat} {x : Int64} (t1 : 1 ≤ t) (t2 : t < n.toNatClampNeg) (s1 : 1 ≤ s) (s2 : s < n.toNatClampNeg) (hne : ¬ t = s) (hk : k < rMn Y s) : ∀ j, j < rMn Y t → vp_updL Y.2.2.2.2.2.1 (rFr Y s + k) x (rFr Y t + j) = Y.2.2.2.2.2.1 (rFr Y t + j) := by
  intro j hj
  have l2 := i32_le h.2.1.2
  have := rd_ne h.1 t1 (by omega) s1 (by omega) hne hj hk
  simp [vp_updL, this]
theorem rd_at (h : rR n Y pa ρ pl P) {k : Int32} (h0 : 0 < v) (h1 : v < n) (hk : vp_in k (rMn Y v.toNatClampNeg)) : (Y.2.1 v.toNatClampNeg + k).toNatClampNeg = rFr Y v.toNatClampNeg + k.toNatClampNeg ∧ k.toNatClampNeg < rMn Y v.toNatClampNeg ∧ vp_in (Y.2.1 v.toNatClampNeg + k) Y.2.2.2.2.2.2.2.2.1 := by
  have hk9 := i32_inR hk
  have hi := rk_in h h0 h1
  have hx : k = nI k.toNatClampNeg := (i32_nI hk).1
  have := ix_of h.1 hi.2.1 hi.2.2.2 hk9.2
  rw [← hx] at this
  exact ⟨this.2.1, hk9.2, this.2.2.2⟩
theorem rv_th (h : rR n Y pa ρ pl P) (h0 : 0 < v) (h1 : v < n) : rTh n Y ρ P v.toNatClampNeg ∧ 0 ≤ Y.2.2.1 v.toNatClampNeg ∧ vp_in v Y.2.2.2.2.2.2.2.1 := ⟨rk_th h h0 h1, (h.1.2.2.2.1 _ (rk_in h h0 h1).2.1 (rk_in h h0 h1).2.2.2).2.1, (rk_in h h0 h1).1⟩
/-- a row -/
theorem rv_row (h : rR n Y pa ρ pl P) {t r : Nat} (h0 : 0 < v) (h1 : v < n) (ht : ρ v.toNatClampNeg = t) (h5 : P.2.1 t = 5) (hr : P.2.2.2.2.1 t = some r) :
    vp_in v Y.2.2.2.2.2.2.2.1 ∧ 0 ≤ Y.2.2.1 v.toNatClampNeg ∧ rMn Y v.toNatClampNeg = P.2.2.2.2.2.1 r ∧ ∀ k, vp_in k (P.2.2.2.2.2.1 r) → vp_in (Y.2.1 v.toNatClampNeg + k) Y.2.2.2.2.2.2.2.2.1 ∧ Y.2.2.2.2.2.1 (Y.2.1 v.toNatClampNeg + k).toNatClampNeg = P.2.2.2.2.2.2.1 r k.toNatClampNeg := by
  subst ht
  obtain ⟨H, m0, hv⟩ := rv_th h h0 h1
  obtain ⟨e1, e2⟩ := H.2.1 h5 r hr
  refine ⟨hv, m0, e1, fun k hk => ?_⟩
  obtain ⟨a, b, c⟩ := rd_at h h0 h1 (k := k) (by rw [e1]; exact hk)
  exact ⟨c, by rw [a]; exact e2 _ (i32_inR hk).2⟩
theorem rv_shelf (h : rR n Y pa ρ pl P) {t r : Nat} (h0 : 0 < v) (h1 : v < n) (ht : ρ v.toNatClampNeg = t) (h6 : P.2.1 t = 6) (hr : P.2.2.2.2.1 t = some r) :
    vp_in v Y.2.2.2.2.2.2.2.1 ∧ 0 ≤ Y.2.2.1 v.toNatClampNeg ∧ rMn Y v.toNatClampNeg = P.2.2.2.2.2.1 r ∧ ∀ k, vp_in k (P.2.2.2.2.2.1 r) → vp_in (Y.2.1 v.toNatClampNeg + k) Y.2.2.2.2.2.2.2.2.1 ∧ rLl n ρ (Y.2.2.2.2.2.1 (Y.2.1 v.toNatClampNeg + k).toNatClampNeg) (P.2.2.2.2.2.2.2 r k.toNatClampNeg) := by
  subst ht
  obtain ⟨H, m0, hv⟩ := rv_th h h0 h1
  obtain ⟨e1, e2⟩ := H.2.2.1 h6 r hr
  refine ⟨hv, m0, e1, fun k hk => ?_⟩
  obtain ⟨a, b, c⟩ := rd_at h h0 h1 (k := k) (by rw [e1]; exact hk)
  exact ⟨c, by rw [a]; exact e2 _ (i32_inR hk).2⟩
/-- a box, a drum: the cells 0, 1, 2 -/
theorem rv_box (h : rR n Y pa ρ pl P) {t : Nat} (h0 : 0 < v) (h1 : v < n) (ht : ρ v.toNatClampNeg = t) (h4 : P.2.1 t < 4) :
    vp_in v Y.2.2.2.2.2.2.2.1 ∧ (∀ k : Int32, vp_in k 3 → vp_in (Y.2.1 v.toNatClampNeg + k) Y.2.2.2.2.2.2.2.2.1) ∧ Y.2.2.2.2.2.1 (Y.2.1 v.toNatClampNeg + 0).toNatClampNeg = (P.2.2.1 t).toInt64 ∧ (P.2.1 t < 3 → rLl n ρ (Y.2.2.2.2.2.1 (Y.2.1 v.toNatClampNeg + 1).toNatClampNeg) (P.2.2.2.2.1 t)) ∧ (P.2.1 t < 2 → Y.2.2.2.2.2.1 (Y.2.1 v.toNatClampNeg + 2).toNatClampNeg = (P.2.2.2.1 t).toInt64) := by
  subst ht
  obtain ⟨H, m0, hv⟩ := rv_th h h0 h1
  obtain ⟨e1, e2⟩ := H.2.2.2.1 h4
  have at9 : ∀ k : Int32, vp_in k 3 → (Y.2.1 v.toNatClampNeg + k).toNatClampNeg = rFr Y v.toNatClampNeg + k.toNatClampNeg ∧ vp_in (Y.2.1 v.toNatClampNeg + k) Y.2.2.2.2.2.2.2.2.1 := fun k hk => by
    obtain ⟨a, b, c⟩ := rd_at h h0 h1 (k := k) (by rw [e1]; exact hk)
    exact ⟨a, c⟩
  have i0 : vp_in (0 : Int32) 3 := i32_in (by decide) (by decide)
  have i1 : vp_in (1 : Int32) 3 := i32_in (by decide) (by decide)
  have i2 : vp_in (2 : Int32) 3 := i32_in (by decide) (by decide)
  refine ⟨hv, fun k hk => (at9 k hk).2, ?_, fun h3 => ?_, fun h2 => ?_⟩
  · rw [(at9 0 i0).1]; exact e2
  · rw [(at9 1 i1).1]; exact H.2.2.2.2.1 h3
  · rw [(at9 2 i2).1]; exact H.2.2.2.2.2.1 h2
theorem rv_sr (h : rR n Y pa ρ pl P) {t : Nat} (h0 : 0 < v) (h1 : v < n) (ht : ρ v.toNatClampNeg = t) : Y.1 v.toNatClampNeg = rSt (P.2.1 t) (P.2.2.1 t) := by subst ht; exact (rk_th h h0 h1).1.2.2
theorem rv_mn {r : Nat} {x : Int32} (h0 : 0 ≤ x) (h : x.toNatClampNeg = r) : x = Int32.ofNat r := by
  have hx := x.toInt_lt
  rw [Int32.le_iff_toInt_le, ci_0] at h0
  have h : x.toInt.toNat = r := h
  apply Int32.toInt_inj.mp
  rw [show (Int32.ofNat r).toInt = r from nI_toInt (by omega)]
  omega
/-- the mill's pool changes beside: what the relation says of it stays -/
theorem rw_row (wf : cWF pl P) (h : rR n Y pa ρ pl P) {q z : Nat} {k : Int32} {x : Int64} (h0 : 0 < v) (h1 : v < n) (hq : ρ v.toNatClampNeg = q) (h5 : P.2.1 q = 5) (hz : P.2.2.2.2.1 q = some z) (hk : vp_in k (P.2.2.2.2.2.1 z)) {a : Nat} (ha : a = (Y.2.1 v.toNatClampNeg + k).toNatClampNeg) :
    rR n (Y.1, Y.2.1, Y.2.2.1, Y.2.2.2.1, Y.2.2.2.2.1, vp_updL Y.2.2.2.2.2.1 a x, Y.2.2.2.2.2.2.1, Y.2.2.2.2.2.2.2.1, Y.2.2.2.2.2.2.2.2.1, Y.2.2.2.2.2.2.2.2.2.1, Y.2.2.2.2.2.2.2.2.2.2) pa ρ pl (pLc P z (vp_updL (P.2.2.2.2.2.2.1 z) k.toNatClampNeg x)) := by
  obtain ⟨hL, hn, hT, hI, hPl⟩ := h
  have h : rR n Y pa ρ pl P := ⟨hL, hn, hT, hI, hPl⟩
  have hi := rk_in h h0 h1
  have hv9 := rv_row h h0 h1 hq h5 hz
  obtain ⟨e1, hk9, _⟩ := rd_at h h0 h1 (k := k) (by rw [hv9.2.2.1]; exact hk)
  subst ha; subst hq
  rw [e1]
  refine ⟨hL, hn, fun t t1 t2 => ?_, hI, hPl⟩
  have H := hT t t1 t2
  by_cases e : t = v.toNatClampNeg
  · subst e
    refine ⟨H.1, fun _ r hr => ?_, fun h6 => absurd (h5.symm.trans h6) (by decide), fun h4 => absurd h4 (by rw [show P.2.1 _ = 5 from h5]; decide), fun h4 => absurd h4 (by rw [show P.2.1 _ = 5 from h5]; decide), fun h4 => absurd h4 (by rw [show P.2.1 _ = 5 from h5]; decide), fun h4 => absurd (h5.symm.trans h4) (by decide)⟩
    have hr : P.2.2.2.2.1 (ρ v.toNatClampNeg) = some r := hr
    cases hz.symm.trans hr
    obtain ⟨a, b⟩ := H.2.1 h5 z hz
    refine ⟨a, fun j hj => ?_⟩
    show vp_updL Y.2.2.2.2.2.1 (rFr Y v.toNatClampNeg + k.toNatClampNeg) x (rFr Y v.toNatClampNeg + j) = va_up P.2.2.2.2.2.2.1 z (vp_updL (P.2.2.2.2.2.2.1 z) k.toNatClampNeg x) z j
    rw [va_up_self]
    by_cases ej : j = k.toNatClampNeg
    · subst ej; simp [vp_updL]
    · have := b j hj
      simp [vp_updL, ej, this]
  · have ho := rd_oth h (x := x) t1 t2 hi.2.1 hi.2.2.1 e hk9
    have HK := rT_keep (Y' := (Y.1, Y.2.1, Y.2.2.1, Y.2.2.2.1, Y.2.2.2.2.1, vp_updL Y.2.2.2.2.2.1 (rFr Y v.toNatClampNeg + k.toNatClampNeg) x, Y.2.2.2.2.2.2.1, Y.2.2.2.2.2.2.2.1, Y.2.2.2.2.2.2.2.2.1, Y.2.2.2.2.2.2.2.2.2.1, Y.2.2.2.2.2.2.2.2.2.2)) H rfl rfl rfl ho
    refine ⟨HK.1, fun h5t r hr => ?_, HK.2.2.1, HK.2.2.2.1, HK.2.2.2.2.1, HK.2.2.2.2.2.1, HK.2.2.2.2.2.2⟩
    obtain ⟨a, b⟩ := HK.2.1 h5t r hr
    refine ⟨a, fun j hj => ?_⟩
    have hne : ¬ r = z := by
      intro e9
      subst e9
      exact e (hI _ _ t1 t2 hi.2.1 hi.2.2.1 (wf.2.2.2.2.2.2.2.2.2 _ _ r H.1.1 (hT _ hi.2.1 hi.2.2.1).1.1 (Or.inl h5t) (Or.inl h5) hr hz))
    show _ = va_up P.2.2.2.2.2.2.1 z _ r j
    rw [va_up_ne _ _ hne]
    exact b j hj
/-- a place changes -/
theorem rw_pl (h : rR n Y pa ρ pl P) {x : Int32} {o : Option Nat} (hx : vp_in x 32) (hv : rLk n ρ v o) : rR n Y (upd pa x.toNatClampNeg v) ρ (va_up pl x.toNatClampNeg o) P := by
  obtain ⟨hL, hn, hT, hI, hPl⟩ := h
  refine ⟨hL, hn, hT, hI, fun p hp => ?_⟩
  rw [upd_at']
  by_cases e : p = x.toNatClampNeg
  · subst e; rw [if_pos rfl, va_up_self]; exact hv
  · rw [if_neg e, va_up_ne _ _ e]; exact hPl p hp
/-- a link in a shelf -/
theorem rw_shelf (wf : cWF pl P) (h : rR n Y pa ρ pl P) {q z : Nat} {k : Int32} {x : Int64} {o : Option Nat} (h0 : 0 < v) (h1 : v < n) (hq : ρ v.toNatClampNeg = q) (h6 : P.2.1 q = 6) (hz : P.2.2.2.2.1 q = some z) (hk : vp_in k (P.2.2.2.2.2.1 z)) (hx : rLl n ρ x o) {a : Nat} (ha : a = (Y.2.1 v.toNatClampNeg + k).toNatClampNeg) :
    rR n (Y.1, Y.2.1, Y.2.2.1, Y.2.2.2.1, Y.2.2.2.2.1, vp_updL Y.2.2.2.2.2.1 a x, Y.2.2.2.2.2.2.1, Y.2.2.2.2.2.2.2.1, Y.2.2.2.2.2.2.2.2.1, Y.2.2.2.2.2.2.2.2.2.1, Y.2.2.2.2.2.2.2.2.2.2) pa ρ pl (pRc P z (va_up (P.2.2.2.2.2.2.2 z) k.toNatClampNeg o)) := by
  obtain ⟨hL, hn, hT, hI, hPl⟩ := h
  have h : rR n Y pa ρ pl P := ⟨hL, hn, hT, hI, hPl⟩
  have hi := rk_in h h0 h1
  have hv9 := rv_shelf h h0 h1 hq h6 hz
  obtain ⟨e1, hk9, _⟩ := rd_at h h0 h1 (k := k) (by rw [hv9.2.2.1]; exact hk)
  subst ha; subst hq
  rw [e1]
  refine ⟨hL, hn, fun t t1 t2 => ?_, hI, hPl⟩
  have H := hT t t1 t2
  by_cases e : t = v.toNatClampNeg
  · subst e
    refine ⟨H.1, fun h5 => absurd (h6.symm.trans h5) (by decide), fun _ r hr => ?_, fun h4 => absurd h4 (by rw [show P.2.1 _ = 6 from h6]; decide), fun h4 => absurd h4 (by rw [show P.2.1 _ = 6 from h6]; decide), fun h4 => absurd h4 (by rw [show P.2.1 _ = 6 from h6]; decide), fun h4 => absurd (h6.symm.trans h4) (by decide)⟩
    have hr : P.2.2.2.2.1 (ρ v.toNatClampNeg) = some r := hr
    cases hz.symm.trans hr
    obtain ⟨a, b⟩ := H.2.2.1 h6 z hz
    refine ⟨a, fun j hj => ?_⟩
    show rLl n ρ (vp_updL Y.2.2.2.2.2.1 (rFr Y v.toNatClampNeg + k.toNatClampNeg) x (rFr Y v.toNatClampNeg + j)) (va_up P.2.2.2.2.2.2.2 z (va_up (P.2.2.2.2.2.2.2 z) k.toNatClampNeg o) z j)
    rw [va_up_self]
    by_cases ej : j = k.toNatClampNeg
    · subst ej; rw [va_up_self]; simp [vp_updL]; exact hx
    · rw [va_up_ne _ _ ej]
      have := b j hj
      rw [show vp_updL Y.2.2.2.2.2.1 (rFr Y v.toNatClampNeg + k.toNatClampNeg) x (rFr Y v.toNatClampNeg + j) = Y.2.2.2.2.2.1 (rFr Y v.toNatClampNeg + j) by simp [vp_updL, ej]]
      exact this
  · have ho := rd_oth h (x := x) t1 t2 hi.2.1 hi.2.2.1 e hk9
    have HK := rT_keep (Y' := (Y.1, Y.2.1, Y.2.2.1, Y.2.2.2.1, Y.2.2.2.2.1, vp_updL Y.2.2.2.2.2.1 (rFr Y v.toNatClampNeg + k.toNatClampNeg) x, Y.2.2.2.2.2.2.1, Y.2.2.2.2.2.2.2.1, Y.2.2.2.2.2.2.2.2.1, Y.2.2.2.2.2.2.2.2.2.1, Y.2.2.2.2.2.2.2.2.2.2)) H rfl rfl rfl ho
    refine ⟨HK.1, HK.2.1, fun h6t r hr => ?_, HK.2.2.2.1, HK.2.2.2.2.1, HK.2.2.2.2.2.1, HK.2.2.2.2.2.2⟩
    obtain ⟨a, b⟩ := HK.2.2.1 h6t r hr
    refine ⟨a, fun j hj => ?_⟩
    have hne : ¬ r = z := by
      intro e9
      subst e9
      exact e (hI _ _ t1 t2 hi.2.1 hi.2.2.1 (wf.2.2.2.2.2.2.2.2.2 _ _ r H.1.1 (hT _ hi.2.1 hi.2.2.1).1.1 (Or.inr h6t) (Or.inr h6) hr hz))
    show rLl n ρ _ (va_up P.2.2.2.2.2.2.2 z _ r j)
    rw [va_up_ne _ _ hne]
    exact b j hj
/-- a box's value -/
theorem rw_val (h : rR n Y pa ρ pl P) {q : Nat} {w : Int32} (h0 : 0 < v) (h1 : v < n) (hq : ρ v.toNatClampNeg = q) (h3 : P.2.1 q < 3) {a : Nat} {x : Int64} (hx : x = w.toInt64) (ha : a = (Y.2.1 v.toNatClampNeg + 0).toNatClampNeg) :
    rR n (Y.1, Y.2.1, Y.2.2.1, Y.2.2.2.1, Y.2.2.2.2.1, vp_updL Y.2.2.2.2.2.1 a x, Y.2.2.2.2.2.2.1, Y.2.2.2.2.2.2.2.1, Y.2.2.2.2.2.2.2.2.1, Y.2.2.2.2.2.2.2.2.2.1, Y.2.2.2.2.2.2.2.2.2.2) pa ρ pl (pVa P q w) := by
  obtain ⟨hL, hn, hT, hI, hPl⟩ := h
  have h : rR n Y pa ρ pl P := ⟨hL, hn, hT, hI, hPl⟩
  have hi := rk_in h h0 h1
  subst hq
  have H0 := hT _ hi.2.1 hi.2.2.1
  have m3 := (H0.2.2.2.1 (by omega)).1
  have e1 := (rd_at h h0 h1 (k := 0) (by rw [m3]; exact i32_in (by decide) (by decide))).1
  rw [show (0 : Int32).toNatClampNeg = 0 by decide] at e1
  subst ha; subst hx
  rw [e1]
  refine ⟨hL, hn, fun t t1 t2 => ?_, hI, hPl⟩
  have H := hT t t1 t2
  by_cases e : t = v.toNatClampNeg
  · subst e
    have ne : ∀ j, ¬ j = 0 → vp_updL Y.2.2.2.2.2.1 (rFr Y v.toNatClampNeg + 0) w.toInt64 (rFr Y v.toNatClampNeg + j) = Y.2.2.2.2.2.1 (rFr Y v.toNatClampNeg + j) := fun j hj => by simp [vp_updL, hj]
    have hk3 : P.2.1 (ρ v.toNatClampNeg) = 0 ∨ P.2.1 (ρ v.toNatClampNeg) = 1 ∨ P.2.1 (ρ v.toNatClampNeg) = 2 := by omega
    refine ⟨⟨H.1.1, H.1.2.1, ?_⟩, fun h5 => absurd h5 (by show ¬ P.2.1 _ = 5; omega), fun h5 => absurd h5 (by show ¬ P.2.1 _ = 6; omega), fun _ => ⟨m3, ?_⟩, fun _ => ?_, fun h2 => ?_, fun h5 => absurd h5 (by show ¬ P.2.1 _ = 4; omega)⟩
    · refine H.1.2.2.trans ?_
      show rSt (P.2.1 _) _ = rSt (P.2.1 _) _
      rcases hk3 with e | e | e <;> rw [e] <;> rfl
    · show vp_updL _ _ _ _ = (va_up P.2.2.1 _ w _).toInt64
      rw [va_up_self]; simp [vp_updL]
    · show rLl n ρ (vp_updL _ _ _ _) _
      rw [ne 1 (by decide)]; exact H.2.2.2.2.1 h3
    · show vp_updL _ _ _ _ = _
      rw [ne 2 (by decide)]; exact H.2.2.2.2.2.1 h2
  · have ho := rd_oth h (x := w.toInt64) (k := 0) t1 t2 hi.2.1 hi.2.2.1 e (by rw [m3]; decide)
    have HK := rT_keep (Y' := (Y.1, Y.2.1, Y.2.2.1, Y.2.2.2.1, Y.2.2.2.2.1, vp_updL Y.2.2.2.2.2.1 (rFr Y v.toNatClampNeg + 0) w.toInt64, Y.2.2.2.2.2.2.1, Y.2.2.2.2.2.2.2.1, Y.2.2.2.2.2.2.2.2.1, Y.2.2.2.2.2.2.2.2.2.1, Y.2.2.2.2.2.2.2.2.2.2)) H rfl rfl rfl ho
    have hne : ¬ ρ t = ρ v.toNatClampNeg := fun q => e (hI _ _ t1 t2 hi.2.1 hi.2.2.1 q)
    have e9 : va_up P.2.2.1 (ρ v.toNatClampNeg) w (ρ t) = P.2.2.1 (ρ t) := va_up_ne _ _ hne
    refine ⟨⟨HK.1.1, HK.1.2.1, ?_⟩, HK.2.1, HK.2.2.1, fun h4 => ⟨(HK.2.2.2.1 h4).1, ?_⟩, HK.2.2.2.2.1, HK.2.2.2.2.2.1, HK.2.2.2.2.2.2⟩
    · show _ = rSt (P.2.1 (ρ t)) (va_up P.2.2.1 (ρ v.toNatClampNeg) w (ρ t))
      rw [e9]; exact HK.1.2.2
    · show _ = (va_up P.2.2.1 (ρ v.toNatClampNeg) w (ρ t)).toInt64
      rw [e9]; exact (HK.2.2.2.1 h4).2
/-- a box's link -/
theorem rw_nx (h : rR n Y pa ρ pl P) {q : Nat} {o : Option Nat} (h0 : 0 < v) (h1 : v < n) (hq : ρ v.toNatClampNeg = q) (h3 : P.2.1 q < 3) {a : Nat} {x : Int64} (hx : rLl n ρ x o) (ha : a = (Y.2.1 v.toNatClampNeg + 1).toNatClampNeg) :
    rR n (Y.1, Y.2.1, Y.2.2.1, Y.2.2.2.1, Y.2.2.2.2.1, vp_updL Y.2.2.2.2.2.1 a x, Y.2.2.2.2.2.2.1, Y.2.2.2.2.2.2.2.1, Y.2.2.2.2.2.2.2.2.1, Y.2.2.2.2.2.2.2.2.2.1, Y.2.2.2.2.2.2.2.2.2.2) pa ρ pl (pNx P q o) := by
  obtain ⟨hL, hn, hT, hI, hPl⟩ := h
  have h : rR n Y pa ρ pl P := ⟨hL, hn, hT, hI, hPl⟩
  have hi := rk_in h h0 h1
  subst hq
  have H0 := hT _ hi.2.1 hi.2.2.1
  have m3 := (H0.2.2.2.1 (by omega)).1
  have e1 := (rd_at h h0 h1 (k := 1) (by rw [m3]; exact i32_in (by decide) (by decide))).1
  rw [show (1 : Int32).toNatClampNeg = 1 by decide] at e1
  subst ha
  rw [e1]
  refine ⟨hL, hn, fun t t1 t2 => ?_, hI, hPl⟩
  have H := hT t t1 t2
  by_cases e : t = v.toNatClampNeg
  · subst e
    have ne : ∀ j, ¬ j = 1 → vp_updL Y.2.2.2.2.2.1 (rFr Y v.toNatClampNeg + 1) x (rFr Y v.toNatClampNeg + j) = Y.2.2.2.2.2.1 (rFr Y v.toNatClampNeg + j) := fun j hj => by simp [vp_updL, hj]
    refine ⟨H.1, fun h5 => absurd h5 (by show ¬ P.2.1 _ = 5; omega), fun h5 => absurd h5 (by show ¬ P.2.1 _ = 6; omega), fun h4 => ⟨m3, ?_⟩, fun _ => ?_, fun h2 => ?_, fun h5 => absurd h5 (by show ¬ P.2.1 _ = 4; omega)⟩
    · exact (ne 0 (by decide)).trans (H.2.2.2.1 h4).2
    · show rLl n ρ (vp_updL _ _ _ _) (va_up P.2.2.2.2.1 _ o _)
      rw [va_up_self]; simp [vp_updL]; exact hx
    · show vp_updL _ _ _ _ = _
      rw [ne 2 (by decide)]; exact H.2.2.2.2.2.1 h2
  · have ho := rd_oth h (x := x) (k := 1) t1 t2 hi.2.1 hi.2.2.1 e (by rw [m3]; decide)
    have HK := rT_keep (Y' := (Y.1, Y.2.1, Y.2.2.1, Y.2.2.2.1, Y.2.2.2.2.1, vp_updL Y.2.2.2.2.2.1 (rFr Y v.toNatClampNeg + 1) x, Y.2.2.2.2.2.2.1, Y.2.2.2.2.2.2.2.1, Y.2.2.2.2.2.2.2.2.1, Y.2.2.2.2.2.2.2.2.2.1, Y.2.2.2.2.2.2.2.2.2.2)) H rfl rfl rfl ho
    have hne : ¬ ρ t = ρ v.toNatClampNeg := fun q => e (hI _ _ t1 t2 hi.2.1 hi.2.2.1 q)
    have e9 : va_up P.2.2.2.2.1 (ρ v.toNatClampNeg) o (ρ t) = P.2.2.2.2.1 (ρ t) := va_up_ne _ _ hne
    refine ⟨HK.1, fun h5 r hr => HK.2.1 h5 r (e9.symm.trans hr), fun h6 r hr => HK.2.2.1 h6 r (e9.symm.trans hr), HK.2.2.2.1, fun h3 => ?_, HK.2.2.2.2.2.1, HK.2.2.2.2.2.2⟩
    show rLl n ρ _ (va_up P.2.2.2.2.1 (ρ v.toNatClampNeg) o (ρ t))
    rw [e9]; exact HK.2.2.2.2.1 h3
end RWr

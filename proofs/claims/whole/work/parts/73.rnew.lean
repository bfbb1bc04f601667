/-! ===== what is new, on both sides ===== -/
/-- what was in the pool is as it was -/
def agr (P P2 : cQ) : Prop := ∀ b, b ∈ P.1 → b ∈ P2.1 ∧ P2.2.1 b = P.2.1 b ∧ P2.2.2.1 b = P.2.2.1 b ∧ P2.2.2.2.1 b = P.2.2.2.1 b ∧ P2.2.2.2.2.1 b = P.2.2.2.2.1 b ∧ P2.2.2.2.2.2.1 b = P.2.2.2.2.2.1 b ∧ P2.2.2.2.2.2.2.1 b = P.2.2.2.2.2.2.1 b ∧ P2.2.2.2.2.2.2.2 b = P.2.2.2.2.2.2.2 b
theorem agr_pN {P : cQ} {a k : Nat} {v w : Int32} {o : Option Nat} {m : Nat} {f : Nat → Int64} {h : Nat → Option Nat} (ha : a ∉ P.1) : agr P (pN P a k v w o m f h) := by
  intro b hb
  have e : ¬ b = a := fun q => ha (q ▸ hb)
  refine ⟨by simp [hb], ?_, ?_, ?_, ?_, ?_, ?_, ?_⟩ <;> exact va_up_ne _ _ e
theorem agr_trans {P P2 P3 : cQ} (h1 : agr P P2) (h2 : agr P2 P3) : agr P P3 := by
  intro b hb
  obtain ⟨a0, a1, a2, a3, a4, a5, a6, a7⟩ := h1 b hb
  obtain ⟨b0, b1, b2, b3, b4, b5, b6, b7⟩ := h2 b a0
  exact ⟨b0, b1.trans a1, b2.trans a2, b3.trans a3, b4.trans a4, b5.trans a5, b6.trans a6, b7.trans a7⟩
theorem agr_two {P : cQ} {q y k kk : Nat} {v w : Int32} {N : Nat} (hq : q ∉ P.1) (hy : y ∉ P.1) (hyq : y ≠ q) : agr P (pN (pN P q k v w (some y) 0 (fun _ => 0) (fun _ => none)) y kk 0 0 none N (fun _ => 0) (fun _ => none)) :=
  agr_trans (agr_pN hq) (agr_pN (by
    intro h
    have h : y ∈ P.1 ++ [q] := h
    simp only [List.mem_append, List.mem_cons, List.not_mem_nil, or_false] at h
    rcases h with h | h
    · exact hy h
    · exact hyq h))
section RNew
variable {r : Int32} {Y : rY} {pa : Nat → Int32} {ρ : Nat → Nat} {pl : Nat → Option Nat} {P P2 : cQ} {q : Nat}
theorem up_lt {r v : Int32} (h0 : 0 < v) (h : v < r) (hr : (r + 1).toNatClampNeg = r.toNatClampNeg + 1) (hp : 0 < r) : v < r + 1 ∧ ¬ v.toNatClampNeg = r.toNatClampNeg := by
  have a := i32_lt (i32_pos h0).1 h
  refine ⟨?_, by omega⟩
  have hr : (r + 1).toInt.toNat = r.toInt.toNat + 1 := hr
  rw [Int32.lt_iff_toInt_lt] at h ⊢
  rw [Int32.lt_iff_toInt_lt, ci_0] at hp
  omega
theorem rLk_up (hr : (r + 1).toNatClampNeg = r.toNatClampNeg + 1) (hp : 0 < r) {v : Int32} {o : Option Nat} (h : rLk r ρ v o) : rLk (r + 1) (va_up ρ r.toNatClampNeg q) v o := by
  rcases h with h | ⟨a, b, c⟩
  · exact Or.inl h
  · obtain ⟨u1, u2⟩ := up_lt a b hr hp
    exact Or.inr ⟨a, u1, by rw [va_up_ne _ _ u2]; exact c⟩
theorem rLl_up (hr : (r + 1).toNatClampNeg = r.toNatClampNeg + 1) (hp : 0 < r) {v : Int64} {o : Option Nat} (h : rLl r ρ v o) : rLl (r + 1) (va_up ρ r.toNatClampNeg q) v o := by
  obtain ⟨x, e, hk⟩ := h
  exact ⟨x, e, rLk_up hr hp hk⟩
theorem rm_new (wf : cWF pl P) (h : rR r Y pa ρ pl P) (hr : Y.2.2.2.2.2.2.2.2.2.1 = r + 1) (hr2 : (r + 1).toNatClampNeg = r.toNatClampNeg + 1) (hq : q ∉ P.1) (hag : agr P P2) (hnew : rTh (r + 1) Y (va_up ρ r.toNatClampNeg q) P2 r.toNatClampNeg) : rR (r + 1) Y pa (va_up ρ r.toNatClampNeg q) pl P2 := by
  obtain ⟨hL, hn, hT, hI, hPl⟩ := h
  have hp := hn.1
  refine ⟨hL, ⟨by rw [← hr]; exact hL.1.1, by rw [hr]; exact Int32.le_refl _⟩, fun t t1 t2 => ?_, fun t t' t1 t2 s1 s2 e => ?_, fun p hp9 => rLk_up hr2 hp (hPl p hp9)⟩
  · by_cases e : t = r.toNatClampNeg
    · subst e; exact hnew
    · have H := hT t t1 (by omega)
      have er : va_up ρ r.toNatClampNeg q t = ρ t := va_up_ne _ _ e
      obtain ⟨a0, a1, a2, a3, a4, a5, a6, a7⟩ := hag _ H.1.1
      unfold rTh
      rw [er, a1, a2, a3, a4]
      refine ⟨⟨a0, H.1.2.1, H.1.2.2⟩, fun h5 s hs => ?_, fun h6 s hs => ?_, H.2.2.2.1, fun h3 => rLl_up hr2 hp (H.2.2.2.2.1 h3), H.2.2.2.2.2.1, H.2.2.2.2.2.2⟩
      · obtain ⟨s', e1, e2, _⟩ := wf.2.2.1 _ H.1.1 h5
        cases hs.symm.trans e1
        obtain ⟨_, _, _, _, _, b5, b6, _⟩ := hag s e2
        rw [b5, b6]
        exact H.2.1 h5 s hs
      · obtain ⟨s', e1, e2, _⟩ := wf.2.2.2.1 _ H.1.1 h6
        cases hs.symm.trans e1
        obtain ⟨_, _, _, _, _, b5, _, b7⟩ := hag s e2
        rw [b5, b7]
        obtain ⟨c1, c2⟩ := H.2.2.1 h6 s hs
        exact ⟨c1, fun j hj => rLl_up hr2 hp (c2 j hj)⟩
  · by_cases e1 : t = r.toNatClampNeg
    · by_cases e2 : t' = r.toNatClampNeg
      · rw [e1, e2]
      · rw [e1, va_up_self, va_up_ne _ _ e2] at e
        exact absurd (e ▸ (hT t' s1 (by omega)).1.1) hq
    · by_cases e2 : t' = r.toNatClampNeg
      · rw [e2, va_up_self, va_up_ne _ _ e1] at e
        exact absurd (e ▸ (hT t t1 (by omega)).1.1) hq
      · rw [va_up_ne _ _ e1, va_up_ne _ _ e2] at e
        exact hI t t' t1 (by omega) s1 (by omega) e
/-- a write into a thing that is not yet the mill's -/
theorem rw_oth (h : rR r Y pa ρ pl P) {s k : Nat} {x : Int64} (s1 : r.toNatClampNeg ≤ s) (s2 : s < Y.2.2.2.2.2.2.2.2.2.1.toNatClampNeg) (hk : k < rMn Y s) {a : Nat} (ha : a = rFr Y s + k) : rR r (Y.1, Y.2.1, Y.2.2.1, Y.2.2.2.1, Y.2.2.2.2.1, vp_updL Y.2.2.2.2.2.1 a x, Y.2.2.2.2.2.2.1, Y.2.2.2.2.2.2.2.1, Y.2.2.2.2.2.2.2.2.1, Y.2.2.2.2.2.2.2.2.2.1, Y.2.2.2.2.2.2.2.2.2.2) pa ρ pl P := by
  obtain ⟨hL, hn, hT, hI, hPl⟩ := h
  subst ha
  have hp := (i32_pos hn.1).2.2
  refine ⟨hL, hn, fun t t1 t2 => ?_, hI, hPl⟩
  refine rT_keep (hT t t1 t2) rfl rfl rfl (fun j hj => ?_)
  have := rd_ne hL t1 (by omega) (show 1 ≤ s by omega) s2 (by omega) hj hk
  show vp_updL _ _ _ _ = _
  simp [vp_updL, this]
theorem ll_0 {n : Int32} {v : Int64} (h : v = 0) : rLl n ρ v none := ⟨0, by rw [h]; decide, Or.inl ⟨rfl, rfl⟩⟩
/-- the new thing itself -/
theorem nw_row {N y : Nat} {v : Int32} (hyq : y ≠ q) (e1 : Y.1 r.toNatClampNeg = v) (e2 : rMn Y r.toNatClampNeg = N) (e3 : ∀ j, j < N → Y.2.2.2.2.2.1 (rFr Y r.toNatClampNeg + j) = 0) : rTh (r + 1) Y (va_up ρ r.toNatClampNeg q) (pRow P q y v N) r.toNatClampNeg := by
  have hqy : ¬ q = y := fun e => hyq e.symm
  unfold rTh
  rw [va_up_self]
  have k5 : (pRow P q y v N).2.1 q = 5 := by show va_up (va_up P.2.1 q 5) y 7 q = 5; rw [va_up_ne _ _ hqy, va_up_self]
  have kv : (pRow P q y v N).2.2.1 q = v := by show va_up (va_up P.2.2.1 q v) y 0 q = v; rw [va_up_ne _ _ hqy, va_up_self]
  have kn : (pRow P q y v N).2.2.2.2.1 q = some y := by show va_up (va_up P.2.2.2.2.1 q (some y)) y none q = some y; rw [va_up_ne _ _ hqy, va_up_self]
  have kl : (pRow P q y v N).2.2.2.2.2.1 y = N := va_up_self _ _ _
  have kj : (pRow P q y v N).2.2.2.2.2.2.1 y = fun _ => 0 := va_up_self _ _ _
  rw [k5, kv, kn]
  refine ⟨⟨by simp, by decide, e1⟩, fun _ r9 h9 => ?_, fun h => absurd h (by decide), fun h => absurd h (by decide), fun h => absurd h (by decide), fun h => absurd h (by decide), fun h => absurd h (by decide)⟩
  cases h9
  rw [kl, kj]
  exact ⟨e2, e3⟩
theorem nw_shelf {N y : Nat} {v w : Int32} (hyq : y ≠ q) (e1 : Y.1 r.toNatClampNeg = v) (e2 : rMn Y r.toNatClampNeg = N) (e3 : ∀ j, j < N → Y.2.2.2.2.2.1 (rFr Y r.toNatClampNeg + j) = 0) : rTh (r + 1) Y (va_up ρ r.toNatClampNeg q) (pShelf P q y v w N) r.toNatClampNeg := by
  have hqy : ¬ q = y := fun e => hyq e.symm
  unfold rTh
  rw [va_up_self]
  have k5 : (pShelf P q y v w N).2.1 q = 6 := by show va_up (va_up P.2.1 q 6) y 8 q = 6; rw [va_up_ne _ _ hqy, va_up_self]
  have kv : (pShelf P q y v w N).2.2.1 q = v := by show va_up (va_up P.2.2.1 q v) y 0 q = v; rw [va_up_ne _ _ hqy, va_up_self]
  have kn : (pShelf P q y v w N).2.2.2.2.1 q = some y := by show va_up (va_up P.2.2.2.2.1 q (some y)) y none q = some y; rw [va_up_ne _ _ hqy, va_up_self]
  have kl : (pShelf P q y v w N).2.2.2.2.2.1 y = N := va_up_self _ _ _
  have kj : (pShelf P q y v w N).2.2.2.2.2.2.2 y = fun _ => none := va_up_self _ _ _
  rw [k5, kv, kn]
  refine ⟨⟨by simp, by decide, e1⟩, fun h => absurd h (by decide), fun _ r9 h9 => ?_, fun h => absurd h (by decide), fun h => absurd h (by decide), fun h => absurd h (by decide), fun h => absurd h (by decide)⟩
  cases h9
  rw [kl, kj]
  exact ⟨e2, fun j hj => ll_0 (e3 j hj)⟩
theorem nw_box {k : Nat} {v w : Int32} (hk : k < 4) (hw : k < 2 → w = v) (e1 : Y.1 r.toNatClampNeg = rSt k v) (e2 : rMn Y r.toNatClampNeg = 3) (c0 : Y.2.2.2.2.2.1 (rFr Y r.toNatClampNeg) = v.toInt64) (c1 : Y.2.2.2.2.2.1 (rFr Y r.toNatClampNeg + 1) = 0) (c2 : Y.2.2.2.2.2.1 (rFr Y r.toNatClampNeg + 2) = v.toInt64) : rTh (r + 1) Y (va_up ρ r.toNatClampNeg q) (pBox P q k v w) r.toNatClampNeg := by
  unfold rTh
  rw [va_up_self]
  have k5 : (pBox P q k v w).2.1 q = k := va_up_self _ _ _
  have kv : (pBox P q k v w).2.2.1 q = v := va_up_self _ _ _
  have kw : (pBox P q k v w).2.2.2.1 q = w := va_up_self _ _ _
  have kn : (pBox P q k v w).2.2.2.2.1 q = none := va_up_self _ _ _
  rw [k5, kv, kn, kw]
  exact ⟨⟨by simp, by omega, e1⟩, fun h => absurd h (by omega), fun h => absurd h (by omega), fun _ => ⟨e2, c0⟩, fun _ => ll_0 c1, fun h2 => by rw [hw h2]; exact c2, fun h => absurd h (by omega)⟩
theorem nw_let {v w : Int32} (e1 : Y.1 r.toNatClampNeg = 16 + v) (e2 : rMn Y r.toNatClampNeg = 0) : rTh (r + 1) Y (va_up ρ r.toNatClampNeg q) (pBox P q 4 v w) r.toNatClampNeg := by
  unfold rTh
  rw [va_up_self]
  have k5 : (pBox P q 4 v w).2.1 q = 4 := va_up_self _ _ _
  have kv : (pBox P q 4 v w).2.2.1 q = v := va_up_self _ _ _
  rw [k5, kv]
  exact ⟨⟨by simp, by decide, e1⟩, fun h => absurd h (by decide), fun h => absurd h (by decide), fun h => absurd h (by decide), fun h => absurd h (by decide), fun h => absurd h (by decide), fun _ => e2⟩
theorem lk_new (hp : 0 < r) (hr2 : (r + 1).toNatClampNeg = r.toNatClampNeg + 1) : rLk (r + 1) (va_up ρ r.toNatClampNeg q) r (some q) := by
  refine Or.inr ⟨hp, ?_, by rw [va_up_self]⟩
  have hr2 : (r + 1).toInt.toNat = r.toInt.toNat + 1 := hr2
  rw [Int32.lt_iff_toInt_lt, ci_0] at hp
  rw [Int32.lt_iff_toInt_lt]
  omega
end RNew
/-! ===== what an operation of the reference answers ===== -/
def rCnt (Y : rY) (md : Int32) : Prop := Y.2.2.2.2.2.2.2.2.2.1.toNatClampNeg ≤ 1 + 9 * md.toNatClampNeg ∧ Y.2.2.2.2.2.2.2.2.2.2.toNatClampNeg ≤ 99 * md.toNatClampNeg
def rAns (f : Int32) (rz : Int64) (pl : Nat → Option Nat) (P : cQ) (md : Int32) (tl : Nat → Int32) (Y : rY) (r : Int64) (Y' : rY) (pa' tl' : Nat → Int32) (wr' tw' : Int32) : Prop :=
  ((f = -1 ∧ tw' = 0 ∧ r = rz) ∨ (¬ f = -1 ∧ tw' = 1 ∧ wr' = f)) ∧ tl' = upd tl 5 md ∧ rCnt Y' md ∧ (Y.2.2.2.2.2.2.2.1 ≤ Y'.2.2.2.2.2.2.2.1 ∧ Y.2.2.2.2.2.2.2.2.1 ≤ Y'.2.2.2.2.2.2.2.2.1) ∧ ∃ ρ' : Nat → Nat, rR Y'.2.2.2.2.2.2.2.2.2.1 Y' pa' ρ' pl P
theorem tl_same {tl : Nat → Int32} {md : Int32} (h : tl 5 = md) : tl = upd tl 5 md := by
  funext k
  rw [upd_at']
  by_cases e : k = 5
  · rw [if_pos e, e]; exact h
  · rw [if_neg e]
section RAns
variable {Y Y' : rY} {pa pa' tl : Nat → Int32} {ρ ρ' : Nat → Nat} {pl pl' : Nat → Option Nat} {P P' : cQ} {md f wr : Int32} {r rz : Int64}
theorem ra_f (rel : rR Y.2.2.2.2.2.2.2.2.2.1 Y pa ρ pl P) (hc : rCnt Y md) (ht : tl 5 = md) (hf : ¬ f = -1) : rAns f rz pl P md tl Y r Y pa tl f 1 :=
  ⟨Or.inr ⟨hf, rfl, rfl⟩, tl_same ht, hc, ⟨Nat.le_refl _, Nat.le_refl _⟩, ρ, rel⟩
theorem ra_ok (rel : rR Y.2.2.2.2.2.2.2.2.2.1 Y pa ρ pl P) (hc : rCnt Y md) (ht : tl 5 = md) (he : r = rz) : rAns (-1) rz pl P md tl Y r Y pa tl wr 0 :=
  ⟨Or.inl ⟨rfl, rfl, he⟩, tl_same ht, hc, ⟨Nat.le_refl _, Nat.le_refl _⟩, ρ, rel⟩
theorem ra_w (rel : rR Y'.2.2.2.2.2.2.2.2.2.1 Y' pa' ρ' pl' P') (hL : Y'.2.2.2.2.2.2.2.1 = Y.2.2.2.2.2.2.2.1 ∧ Y'.2.2.2.2.2.2.2.2.1 = Y.2.2.2.2.2.2.2.2.1 ∧ Y'.2.2.2.2.2.2.2.2.2.1 = Y.2.2.2.2.2.2.2.2.2.1 ∧ Y'.2.2.2.2.2.2.2.2.2.2 = Y.2.2.2.2.2.2.2.2.2.2) (hc : rCnt Y md) (ht : tl 5 = md) (he : r = rz) : rAns (-1) rz pl' P' md tl Y r Y' pa' tl wr 0 := by
  refine ⟨Or.inl ⟨rfl, rfl, he⟩, tl_same ht, ?_, ⟨by rw [hL.1]; exact Nat.le_refl _, by rw [hL.2.1]; exact Nat.le_refl _⟩, ρ', rel⟩
  unfold rCnt
  rw [hL.2.2.1, hL.2.2.2]
  exact hc
end RAns

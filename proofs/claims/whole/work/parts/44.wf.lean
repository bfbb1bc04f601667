/-! ===== what every operation keeps of the pool ===== -/
section CWf
variable {pl : Nat → Option Nat} {P P' : cQ}
theorem wf_pl (wf : cWF pl P) {k : Nat} {o : Option Nat} (ho : ∀ t, o = some t → t ∈ P.1 ∧ P.2.1 t < 7) : cWF (va_up pl k o) P := by
  refine ⟨fun x t h => ?_, wf.2⟩
  by_cases hx : x = k
  · subst hx; rw [va_up_self] at h; exact ho t h
  · rw [va_up_ne _ _ hx] at h; exact wf.1 x t h
theorem wf_lc (wf : cWF pl P) (y : Nat) (f : Nat → Int64) : cWF pl (pLc P y f) := wf
theorem kOf_box {k : Nat} (hk : k < 3) (v w s : Int32) : kOf k v s = kOf k w s := by
  rcases (show k = 0 ∨ k = 1 ∨ k = 2 by omega) with rfl | rfl | rfl <;> rfl
theorem wf_va (wf : cWF pl P) {a : Nat} (hk : P.2.1 a < 3) (v : Int32) : cWF pl (pVa P a v) := by
  obtain ⟨w1, w2, w3, w4, w5, w6, w7, w8, w9, w10⟩ := wf
  have ne : ∀ b, ¬ P.2.1 b < 3 → va_up P.2.2.1 a v b = P.2.2.1 b := fun b hb => va_up_ne _ _ (fun q => hb (q ▸ hk))
  have kk : ∀ t s, kOf (P.2.1 t) (va_up P.2.2.1 a v t) s = kOf (P.2.1 t) (P.2.2.1 t) s := by
    intro t s
    by_cases ht : P.2.1 t < 3
    · exact kOf_box ht _ _ _
    · rw [ne t ht]
  refine ⟨w1, w2, w3, w4, w5, fun b hb h => ?_, fun b hb h => ?_, fun b hb h => ?_, fun b r j t hb h hr hj => ?_, w10⟩
  · have e := ne b (by rw [show P.2.1 b = 6 from h]; decide)
    show (va_up P.2.2.1 a v b = 8 ∧ P.2.2.2.1 b = 0) ∨ (va_up P.2.2.1 a v b = 9 ∧ P.2.2.2.1 b = 12) ∨ (va_up P.2.2.1 a v b = 10 ∧ P.2.2.2.1 b = 13) ∨ (va_up P.2.2.1 a v b = 11 ∧ P.2.2.2.1 b = 14)
    rw [e]; exact w6 b hb h
  · have e := ne b (by rw [show P.2.1 b = 5 from h]; decide)
    show ∃ k : Nat, k < 8 ∧ va_up P.2.2.1 a v b = nI k
    rw [e]; exact w7 b hb h
  · have e := ne b (by rw [show P.2.1 b = 4 from h]; decide)
    show ∃ k : Nat, k < 7 ∧ va_up P.2.2.1 a v b = nI k
    rw [e]; exact w8 b hb h
  · exact (kk t _).trans (w9 b r j t hb h hr hj)
theorem wf_nx (wf : cWF pl P) {a : Nat} (hk : P.2.1 a < 3) {o : Option Nat} (ho : ∀ t, o = some t → t ∈ P.1 ∧ P.2.1 t < 3) : cWF pl (pNx P a o) := by
  obtain ⟨w1, w2, w3, w4, w5, w6, w7, w8, w9, w10⟩ := wf
  have ne : ∀ b, ¬ P.2.1 b < 3 → va_up P.2.2.2.2.1 a o b = P.2.2.2.2.1 b := fun b hb => va_up_ne _ _ (fun q => hb (q ▸ hk))
  refine ⟨w1, fun b t hb h ht => ?_, fun b hb h => ?_, fun b hb h => ?_, w5, w6, w7, w8, fun b r j t hb h hr hj => ?_, fun b c r hb hc h1 h2 e1 e2 => ?_⟩
  · have ht : va_up P.2.2.2.2.1 a o b = some t := ht
    by_cases hx : b = a
    · subst hx; rw [va_up_self] at ht; exact ho t ht
    · rw [va_up_ne _ _ hx] at ht; exact w2 b t hb h ht
  · show ∃ r, va_up P.2.2.2.2.1 a o b = some r ∧ r ∈ P.1 ∧ P.2.1 r = 7 ∧ P.2.2.2.2.2.1 r < 100
    rw [ne b (by rw [show P.2.1 b = 5 from h]; decide)]; exact w3 b hb h
  · show ∃ r, va_up P.2.2.2.2.1 a o b = some r ∧ r ∈ P.1 ∧ P.2.1 r = 8 ∧ P.2.2.2.2.2.1 r < 100
    rw [ne b (by rw [show P.2.1 b = 6 from h]; decide)]; exact w4 b hb h
  · have hr : va_up P.2.2.2.2.1 a o b = some r := hr
    rw [ne b (by rw [show P.2.1 b = 6 from h]; decide)] at hr
    exact w9 b r j t hb h hr hj
  · have e1 : va_up P.2.2.2.2.1 a o b = some r := e1
    have e2 : va_up P.2.2.2.2.1 a o c = some r := e2
    have n1 : ¬ P.2.1 b < 3 := by
      rcases h1 with h1 | h1 <;> (rw [show P.2.1 b = _ from h1]; decide)
    have n2 : ¬ P.2.1 c < 3 := by
      rcases h2 with h2 | h2 <;> (rw [show P.2.1 c = _ from h2]; decide)
    rw [ne b n1] at e1
    rw [ne c n2] at e2
    exact w10 b c r hb hc h1 h2 e1 e2
theorem wf_rc (wf : cWF pl P) {y : Nat} {f : Nat → Option Nat} (hf : ∀ j t, f j = some t → t ∈ P.1 ∧ P.2.1 t < 7) (hk : ∀ a, a ∈ P.1 → P.2.1 a = 6 → P.2.2.2.2.1 a = some y → ∀ j t, f j = some t → kOf (P.2.1 t) (P.2.2.1 t) (P.2.2.2.1 a) = true) : cWF pl (pRc P y f) := by
  obtain ⟨w1, w2, w3, w4, w5, w6, w7, w8, w9, w10⟩ := wf
  refine ⟨w1, w2, w3, w4, fun r j t hr h hj => ?_, w6, w7, w8, fun b r j t hb h hr hj => ?_, w10⟩
  · have hj : va_up P.2.2.2.2.2.2.2 y f r j = some t := hj
    by_cases hx : r = y
    · subst hx; rw [va_up_self] at hj; exact hf j t hj
    · rw [va_up_ne _ _ hx] at hj; exact w5 r j t hr h hj
  · have hj : va_up P.2.2.2.2.2.2.2 y f r j = some t := hj
    by_cases hx : r = y
    · subst hx; rw [va_up_self] at hj; exact hk b hb h hr j t hj
    · rw [va_up_ne _ _ hx] at hj; exact w9 b r j t hb h hr hj
theorem wf_rcS (wf : cWF pl P) {x y : Nat} {f : Nat → Option Nat} (hx : x ∈ P.1) (hk : P.2.1 x = 6) (hy : P.2.2.2.2.1 x = some y) (hf : ∀ j t, f j = some t → t ∈ P.1 ∧ P.2.1 t < 7 ∧ kOf (P.2.1 t) (P.2.2.1 t) (P.2.2.2.1 x) = true) : cWF pl (pRc P y f) := by
  refine wf_rc wf (fun j t h => ⟨(hf j t h).1, (hf j t h).2.1⟩) (fun a ha hk1 hr j t h => ?_)
  have e : a = x := wf.2.2.2.2.2.2.2.2.2 a x y ha hx (Or.inr hk1) (Or.inr hk) hr hy
  rw [e]; exact (hf j t h).2.2
/-- a pool that grew -/
theorem wf_ext (wf : cWF pl P) (hsub : ∀ b, b ∈ P.1 → b ∈ P'.1)
    (hag : ∀ b, b ∈ P.1 → P'.2.1 b = P.2.1 b ∧ P'.2.2.1 b = P.2.2.1 b ∧ P'.2.2.2.1 b = P.2.2.2.1 b ∧ P'.2.2.2.2.1 b = P.2.2.2.2.1 b ∧ P'.2.2.2.2.2.1 b = P.2.2.2.2.2.1 b ∧ P'.2.2.2.2.2.2.2 b = P.2.2.2.2.2.2.2 b)
    (n2 : ∀ a, a ∈ P'.1 → a ∉ P.1 → P'.2.1 a < 3 → P'.2.2.2.2.1 a = none)
    (n3 : ∀ a, a ∈ P'.1 → a ∉ P.1 → P'.2.1 a = 5 → ∃ r, P'.2.2.2.2.1 a = some r ∧ r ∈ P'.1 ∧ P'.2.1 r = 7 ∧ P'.2.2.2.2.2.1 r < 100)
    (n4 : ∀ a, a ∈ P'.1 → a ∉ P.1 → P'.2.1 a = 6 → ∃ r, P'.2.2.2.2.1 a = some r ∧ r ∈ P'.1 ∧ P'.2.1 r = 8 ∧ P'.2.2.2.2.2.1 r < 100)
    (n5 : ∀ r j, r ∈ P'.1 → r ∉ P.1 → P'.2.1 r = 8 → P'.2.2.2.2.2.2.2 r j = none)
    (n6 : ∀ a, a ∈ P'.1 → a ∉ P.1 → P'.2.1 a = 6 → (P'.2.2.1 a = 8 ∧ P'.2.2.2.1 a = 0) ∨ (P'.2.2.1 a = 9 ∧ P'.2.2.2.1 a = 12) ∨ (P'.2.2.1 a = 10 ∧ P'.2.2.2.1 a = 13) ∨ (P'.2.2.1 a = 11 ∧ P'.2.2.2.1 a = 14))
    (n7 : ∀ a, a ∈ P'.1 → a ∉ P.1 → P'.2.1 a = 5 → ∃ k : Nat, k < 8 ∧ P'.2.2.1 a = nI k)
    (n8 : ∀ a, a ∈ P'.1 → a ∉ P.1 → P'.2.1 a = 4 → ∃ k : Nat, k < 7 ∧ P'.2.2.1 a = nI k)
    (n9 : ∀ a r, a ∈ P'.1 → a ∉ P.1 → (P'.2.1 a = 5 ∨ P'.2.1 a = 6) → P'.2.2.2.2.1 a = some r → r ∉ P.1)
    (n10 : ∀ a b, a ∈ P'.1 → a ∉ P.1 → b ∈ P'.1 → b ∉ P.1 → (P'.2.1 a = 5 ∨ P'.2.1 a = 6) → (P'.2.1 b = 5 ∨ P'.2.1 b = 6) → a = b) : cWF pl P' := by
  obtain ⟨w1, w2, w3, w4, w5, w6, w7, w8, w9, w10⟩ := wf
  have old : ∀ a r, a ∈ P.1 → (P.2.1 a = 5 ∨ P.2.1 a = 6) → P.2.2.2.2.1 a = some r → r ∈ P.1 := by
    intro a r ha hk hr
    rcases hk with hk | hk
    · obtain ⟨r', e, h, -⟩ := w3 a ha hk
      exact (Option.some.inj (e.symm.trans hr)) ▸ h
    · obtain ⟨r', e, h, -⟩ := w4 a ha hk
      exact (Option.some.inj (e.symm.trans hr)) ▸ h
  refine ⟨?_, ?_, ?_, ?_, ?_, ?_, ?_, ?_, ?_, ?_⟩
  · intro x t h
    obtain ⟨h1, h2⟩ := w1 x t h
    exact ⟨hsub t h1, by rw [(hag t h1).1]; exact h2⟩
  · intro a t ha hk ht
    by_cases h : a ∈ P.1
    · obtain ⟨e1, -, -, e4, -⟩ := hag a h
      rw [e1] at hk; rw [e4] at ht
      obtain ⟨h1, h2⟩ := w2 a t h hk ht
      exact ⟨hsub t h1, by rw [(hag t h1).1]; exact h2⟩
    · rw [n2 a ha h hk] at ht; cases ht
  · intro a ha hk
    by_cases h : a ∈ P.1
    · obtain ⟨e1, -, -, e4, -⟩ := hag a h
      rw [e1] at hk
      obtain ⟨r, h1, h2, h3, h4⟩ := w3 a h hk
      obtain ⟨f1, -, -, -, f5, -⟩ := hag r h2
      exact ⟨r, e4.trans h1, hsub r h2, f1.trans h3, by rw [f5]; exact h4⟩
    · exact n3 a ha h hk
  · intro a ha hk
    by_cases h : a ∈ P.1
    · obtain ⟨e1, -, -, e4, -⟩ := hag a h
      rw [e1] at hk
      obtain ⟨r, h1, h2, h3, h4⟩ := w4 a h hk
      obtain ⟨f1, -, -, -, f5, -⟩ := hag r h2
      exact ⟨r, e4.trans h1, hsub r h2, f1.trans h3, by rw [f5]; exact h4⟩
    · exact n4 a ha h hk
  · intro r j t hr hk hj
    by_cases h : r ∈ P.1
    · obtain ⟨e1, -, -, -, -, e6⟩ := hag r h
      rw [e1] at hk; rw [e6] at hj
      obtain ⟨h1, h2⟩ := w5 r j t h hk hj
      exact ⟨hsub t h1, by rw [(hag t h1).1]; exact h2⟩
    · rw [n5 r j hr h hk] at hj; cases hj
  · intro a ha hk
    by_cases h : a ∈ P.1
    · obtain ⟨e1, e2, e3, -⟩ := hag a h
      rw [e1] at hk; rw [e2, e3]; exact w6 a h hk
    · exact n6 a ha h hk
  · intro a ha hk
    by_cases h : a ∈ P.1
    · obtain ⟨e1, e2, -⟩ := hag a h
      rw [e1] at hk; rw [e2]; exact w7 a h hk
    · exact n7 a ha h hk
  · intro a ha hk
    by_cases h : a ∈ P.1
    · obtain ⟨e1, e2, -⟩ := hag a h
      rw [e1] at hk; rw [e2]; exact w8 a h hk
    · exact n8 a ha h hk
  · intro a r j t ha hk hr hj
    by_cases h : a ∈ P.1
    · obtain ⟨e1, -, e3, e4, -⟩ := hag a h
      rw [e1] at hk; rw [e4] at hr
      have hr0 : r ∈ P.1 := old a r h (Or.inr hk) hr
      obtain ⟨f1, -, -, -, -, f6⟩ := hag r hr0
      rw [f6] at hj
      have h8 : P.2.1 r = 8 := by
        obtain ⟨r', q1, -, q3, -⟩ := w4 a h hk
        exact (Option.some.inj (q1.symm.trans hr)) ▸ q3
      have ht := w5 r j t hr0 h8 hj
      obtain ⟨g1, g2, -⟩ := hag t ht.1
      rw [g1, g2, e3]
      exact w9 a r j t h hk hr hj
    · obtain ⟨r', q1, q2, q3, -⟩ := n4 a ha h hk
      have e : r' = r := Option.some.inj (q1.symm.trans hr)
      subst e
      rw [n5 r' j q2 (n9 a r' ha h (Or.inr hk) hr) q3] at hj; cases hj
  · intro a b r ha hb h1 h2 e1 e2
    by_cases h : a ∈ P.1
    · obtain ⟨f1, -, -, f4, -⟩ := hag a h
      rw [f1] at h1; rw [f4] at e1
      have hr0 := old a r h h1 e1
      by_cases h' : b ∈ P.1
      · obtain ⟨g1, -, -, g4, -⟩ := hag b h'
        rw [g1] at h2; rw [g4] at e2
        exact w10 a b r h h' h1 h2 e1 e2
      · exact absurd hr0 (n9 b r hb h' h2 e2)
    · by_cases h' : b ∈ P.1
      · obtain ⟨g1, -, -, g4, -⟩ := hag b h'
        rw [g1] at h2; rw [g4] at e2
        exact absurd (old b r h' h2 e2) (n9 a r ha h h1 e1)
      · exact n10 a b ha h hb h' h1 h2
theorem wf_box (wf : cWF pl P) {q k : Nat} {v w : Int32} (hq : q ∉ P.1) (hk : k < 5) (hv : k = 4 → ∃ j : Nat, j < 7 ∧ v = nI j) : cWF pl (pBox P q k v w) := by
  have mem : ∀ a, a ∈ (pBox P q k v w).1 → a ∉ P.1 → a = q := by
    intro a ha h
    rcases List.mem_append.mp ha with h1 | h1
    · exact absurd h1 h
    · exact List.mem_singleton.mp h1
  have kd : (pBox P q k v w).2.1 q = k := va_up_self _ _ _
  refine wf_ext (P := P) (P' := pBox P q k v w) wf (fun b hb => List.mem_append_left _ hb) (fun b hb => ?_) ?_ ?_ ?_ ?_ ?_ ?_ ?_ ?_ ?_
  · have hne : b ≠ q := fun e => hq (e ▸ hb)
    exact ⟨va_up_ne _ _ hne, va_up_ne _ _ hne, va_up_ne _ _ hne, va_up_ne _ _ hne, va_up_ne _ _ hne, va_up_ne _ _ hne⟩
  · intro a ha h hk; rw [mem a ha h]; exact va_up_self _ _ _
  · intro a ha h hk; rw [mem a ha h, kd] at hk; omega
  · intro a ha h hk; rw [mem a ha h, kd] at hk; omega
  · intro a j ha h hk; rw [mem a ha h, kd] at hk; omega
  · intro a ha h hk; rw [mem a ha h, kd] at hk; omega
  · intro a ha h hk; rw [mem a ha h, kd] at hk; omega
  · intro a ha h hk
    rw [mem a ha h, kd] at hk
    rw [mem a ha h]
    show ∃ j : Nat, j < 7 ∧ va_up P.2.2.1 q v q = nI j
    rw [va_up_self]; exact hv hk
  · intro a r ha h hk; rw [mem a ha h, kd] at hk; omega
  · intro a b ha h hb h' _ _; rw [mem a ha h, mem b hb h']
theorem wf_two (wf : cWF pl P) {q y k kk N : Nat} {v w : Int32} (hq : q ∉ P.1) (hy : y ∉ P.1) (hyq : y ≠ q) (hN : N < 100) (hk : k = 5 ∧ kk = 7 ∧ (∃ j : Nat, j < 8 ∧ v = nI j) ∨ k = 6 ∧ kk = 8 ∧ ((v = 8 ∧ w = 0) ∨ (v = 9 ∧ w = 12) ∨ (v = 10 ∧ w = 13) ∨ (v = 11 ∧ w = 14))) :
    cWF pl (pN (pN P q k v w (some y) 0 (fun _ => 0) (fun _ => none)) y kk 0 0 none N (fun _ => 0) (fun _ => none)) := by
  generalize hP9 : pN (pN P q k v w (some y) 0 (fun _ => 0) (fun _ => none)) y kk 0 0 none N (fun _ => 0) (fun _ => none) = P9
  have hqy : q ≠ y := fun e => hyq e.symm
  have m1 : P9.1 = (P.1 ++ [q]) ++ [y] := by rw [← hP9]
  have mem : ∀ a, a ∈ P9.1 → a ∉ P.1 → a = q ∨ a = y := by
    intro a ha h
    rw [m1] at ha
    rcases List.mem_append.mp ha with h1 | h1
    · rcases List.mem_append.mp h1 with h2 | h2
      · exact absurd h2 h
      · exact Or.inl (List.mem_singleton.mp h2)
    · exact Or.inr (List.mem_singleton.mp h1)
  have iny : y ∈ P9.1 := by rw [m1]; simp
  have kq : P9.2.1 q = k := by rw [← hP9]; show va_up (va_up P.2.1 q k) y kk q = k; rw [va_up_ne _ _ hqy, va_up_self]
  have ky : P9.2.1 y = kk := by rw [← hP9]; exact va_up_self _ _ _
  have vq : P9.2.2.1 q = v := by rw [← hP9]; show va_up (va_up P.2.2.1 q v) y 0 q = v; rw [va_up_ne _ _ hqy, va_up_self]
  have wq : P9.2.2.2.1 q = w := by rw [← hP9]; show va_up (va_up P.2.2.2.1 q w) y 0 q = w; rw [va_up_ne _ _ hqy, va_up_self]
  have nq : P9.2.2.2.2.1 q = some y := by rw [← hP9]; show va_up (va_up P.2.2.2.2.1 q (some y)) y none q = some y; rw [va_up_ne _ _ hqy, va_up_self]
  have ly : P9.2.2.2.2.2.1 y = N := by rw [← hP9]; exact va_up_self _ _ _
  have ry : ∀ j, P9.2.2.2.2.2.2.2 y j = none := by intro j; rw [← hP9]; show va_up (va_up P.2.2.2.2.2.2.2 q _) y (fun _ => none) y j = none; rw [va_up_self]
  have nk : ∀ a, a ∈ P9.1 → a ∉ P.1 → P9.2.1 a = k ∧ a = q ∨ P9.2.1 a = kk ∧ a = y := by
    intro a ha h
    rcases mem a ha h with e | e
    · rw [e]; exact Or.inl ⟨kq, rfl⟩
    · rw [e]; exact Or.inr ⟨ky, rfl⟩
  refine wf_ext (P := P) (P' := P9) wf (fun b hb => by rw [m1]; simp [hb]) (fun b hb => ?_) ?_ ?_ ?_ ?_ ?_ ?_ ?_ ?_ ?_
  · have n1 : b ≠ q := fun e => hq (e ▸ hb)
    have n2 : b ≠ y := fun e => hy (e ▸ hb)
    rw [← hP9]
    have z : ∀ {α : Type} (f : Nat → α) (u u' : α), va_up (va_up f q u) y u' b = f b := fun f u u' => by rw [va_up_ne _ _ n2, va_up_ne _ _ n1]
    exact ⟨z _ _ _, z _ _ _, z _ _ _, z _ _ _, z _ _ _, z _ _ _⟩
  · intro a ha h hl
    rcases nk a ha h with ⟨e, -⟩ | ⟨e, -⟩ <;> omega
  · intro a ha h hl
    rcases nk a ha h with ⟨e, e2⟩ | ⟨e, -⟩
    · rw [e2]; exact ⟨y, nq, iny, by omega, by rw [ly]; exact hN⟩
    · omega
  · intro a ha h hl
    rcases nk a ha h with ⟨e, e2⟩ | ⟨e, -⟩
    · rw [e2]; exact ⟨y, nq, iny, by omega, by rw [ly]; exact hN⟩
    · omega
  · intro a j ha h hl
    rcases nk a ha h with ⟨e, -⟩ | ⟨e, e2⟩
    · omega
    · rw [e2]; exact ry j
  · intro a ha h hl
    rcases nk a ha h with ⟨e, e2⟩ | ⟨e, -⟩
    · rw [e2, vq, wq]
      rcases hk with ⟨h1, -⟩ | ⟨-, -, h3⟩
      · omega
      · exact h3
    · omega
  · intro a ha h hl
    rcases nk a ha h with ⟨e, e2⟩ | ⟨e, -⟩
    · rw [e2, vq]
      rcases hk with ⟨-, -, h3⟩ | ⟨h1, -⟩
      · exact h3
      · omega
    · omega
  · intro a ha h hl
    rcases nk a ha h with ⟨e, -⟩ | ⟨e, -⟩ <;> omega
  · intro a r ha h hl hr
    rcases nk a ha h with ⟨e, e2⟩ | ⟨e, -⟩
    · rw [e2, nq] at hr; exact (Option.some.inj hr) ▸ hy
    · omega
  · intro a b ha h hb h' h1 h2
    rcases nk a ha h with ⟨e, e2⟩ | ⟨e, -⟩
    · rcases nk b hb h' with ⟨f, f2⟩ | ⟨f, -⟩
      · rw [e2, f2]
      · omega
    · omega
theorem wf_row (wf : cWF pl P) {q y N : Nat} {v : Int32} (hq : q ∉ P.1) (hy : y ∉ P.1) (hyq : y ≠ q) (hN : N < 100) (hv : ∃ j : Nat, j < 8 ∧ v = nI j) : cWF pl (pRow P q y v N) := wf_two wf hq hy hyq hN (Or.inl ⟨rfl, rfl, hv⟩)
theorem wf_shelf (wf : cWF pl P) {q y N : Nat} {v w : Int32} (hq : q ∉ P.1) (hy : y ∉ P.1) (hyq : y ≠ q) (hN : N < 100) (hv : (v = 8 ∧ w = 0) ∨ (v = 9 ∧ w = 12) ∨ (v = 10 ∧ w = 13) ∨ (v = 11 ∧ w = 14)) : cWF pl (pShelf P q y v w N) := wf_two wf hq hy hyq hN (Or.inr ⟨rfl, rfl, hv⟩)
theorem pRc_step {y : Nat} {d : Nat → Option Nat} {k : Nat} {o : Option Nat} : pRc (pRc P y d) y (va_up ((pRc P y d).2.2.2.2.2.2.2 y) k o) = pRc P y (va_up d k o) := by
  have e : ∀ (f : Nat → Nat → Option Nat), va_up (va_up f y d) y (va_up (va_up f y d y) k o) = va_up f y (va_up d k o) := by
    intro f; funext b
    by_cases hb : b = y
    · subst hb; rw [va_up_self, va_up_self, va_up_self]
    · rw [va_up_ne _ _ hb, va_up_ne _ _ hb, va_up_ne _ _ hb]
  show (P.1, P.2.1, P.2.2.1, P.2.2.2.1, P.2.2.2.2.1, P.2.2.2.2.2.1, P.2.2.2.2.2.2.1, va_up (va_up P.2.2.2.2.2.2.2 y d) y (va_up (va_up P.2.2.2.2.2.2.2 y d y) k o)) = _
  rw [e]
theorem pRc_self {y : Nat} : pRc P y (P.2.2.2.2.2.2.2 y) = P := by
  have e : va_up P.2.2.2.2.2.2.2 y (P.2.2.2.2.2.2.2 y) = P.2.2.2.2.2.2.2 := by
    funext b
    by_cases hb : b = y
    · subst hb; rw [va_up_self]
    · rw [va_up_ne _ _ hb]
  show (P.1, P.2.1, P.2.2.1, P.2.2.2.1, P.2.2.2.2.1, P.2.2.2.2.2.1, P.2.2.2.2.2.2.1, va_up P.2.2.2.2.2.2.2 y (P.2.2.2.2.2.2.2 y)) = P
  rw [e]
end CWf

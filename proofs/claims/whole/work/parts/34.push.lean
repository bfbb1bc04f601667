/-! ===== what is new comes into the pool ===== -/
abbrev pN (P : cQ) (a k : Nat) (v w : Int32) (o : Option Nat) (n : Nat) (f : Nat → Int64) (h : Nat → Option Nat) : cQ := (P.1 ++ [a], va_up P.2.1 a k, va_up P.2.2.1 a v, va_up P.2.2.2.1 a w, va_up P.2.2.2.2.1 a o, va_up P.2.2.2.2.2.1 a n, va_up P.2.2.2.2.2.2.1 a f, va_up P.2.2.2.2.2.2.2 a h)
theorem cn_push {X : va_W} {ty : Nat → ClassId} {P : cQ} {a k : Nat} {v w : Int32} {o : Option Nat} {n : Nat} {f : Nat → Int64} {h : Nat → Option Nat} (ha : a ∉ P.1) (e : va_E) (he : cpf ty (pN P a k v w o n f h) a = e) : (X ++ va_pl P.1 (cpf ty P)) ++ [(a, e)] = X ++ va_pl (pN P a k v w o n f h).1 (cpf ty (pN P a k v w o n f h)) := by
  rw [List.append_assoc, va_pl_push ha]
  refine congrArg (fun q => X ++ q) (va_pl_congr (fun b => ?_))
  by_cases hb : b = a
  · subst hb; rw [va_up_self, he]
  · rw [va_up_ne _ _ hb]; simp [cpf, va_up_ne _ _ hb]
theorem cn_notin {A : Nat → Prop} {X : va_W} {L : List Nat} {f : Nat → va_E} {a : Nat} {e : va_E} {Y : va_W} (hD : va_D A (((X ++ va_pl L f) ++ [(a, e)]) ++ Y)) : a ∉ L := by
  intro h
  obtain ⟨k, hk⟩ := va_pl_get (X := X) (f := f) h
  have hl := (List.getElem?_eq_some_iff.mp hk).1
  have h1 : (((X ++ va_pl L f) ++ [(a, e)]) ++ Y)[k]? = some (a, f a) := by
    rw [List.append_assoc, List.getElem?_append_left hl]; exact hk
  have h2 : (((X ++ va_pl L f) ++ [(a, e)]) ++ Y)[(X ++ va_pl L f).length]? = some (a, e) := by
    rw [List.append_assoc, List.getElem?_append_right (Nat.le_refl _)]; simp
  have := hD.1 _ _ _ _ h1 h2 rfl
  omega
theorem lset_last {α : Type} (l : List α) (x y : α) : (l ++ [x]).set l.length y = l ++ [y] := by
  rw [List.set_append_right _ _ (Nat.le_refl _)]; simp
theorem lget_last {α : Type} (l : List α) (x : α) : (l ++ [x])[l.length]? = some x := by simp
abbrev pRow (P : cQ) (q y : Nat) (v : Int32) (N : Nat) : cQ := pN (pN P q 5 v 0 (some y) 0 (fun _ => 0) (fun _ => none)) y 7 0 0 none N (fun _ => 0) (fun _ => none)
abbrev pShelf (P : cQ) (q y : Nat) (v w : Int32) (N : Nat) : cQ := pN (pN P q 6 v w (some y) 0 (fun _ => 0) (fun _ => none)) y 8 0 0 none N (fun _ => 0) (fun _ => none)
abbrev pBox (P : cQ) (q k : Nat) (v w : Int32) : cQ := pN P q k v w none 0 (fun _ => 0) (fun _ => none)
section CPush
variable {A : Nat → Prop} {X : va_W} {ty : Nat → ClassId} {P : cQ} {q y N : Nat} {v w : Int32} {D : va_G} {H : Heap} {e0 : va_E}
theorem cn_row (hP : va_P D vwCl (((X ++ va_pl P.1 (cpf ty P)) ++ [(q, e0)]).set (X ++ va_pl P.1 (cpf ty P)).length (q, .inr (10, [.int v, .ref y])) ++ [(y, .inl (ty 2, N, .inr (.inl (fun _ => 0))))]) H) (hD : va_D A (((X ++ va_pl P.1 (cpf ty P)) ++ [(q, e0)]).set (X ++ va_pl P.1 (cpf ty P)).length (q, .inr (10, [.int v, .ref y])) ++ [(y, .inl (ty 2, N, .inr (.inl (fun _ => 0))))])) :
    q ∉ P.1 ∧ y ∉ P.1 ∧ y ≠ q ∧ va_P D vwCl (X ++ va_pl (pRow P q y v N).1 (cpf ty (pRow P q y v N))) H ∧ va_D A (X ++ va_pl (pRow P q y v N).1 (cpf ty (pRow P q y v N))) := by
  rw [lset_last] at hP hD
  have hq : q ∉ P.1 := cn_notin hD
  rw [cn_push (k := 5) (v := v) (w := 0) (o := some y) (n := 0) (f := fun _ => 0) (h := fun _ => none) hq (.inr (10, [.int v, .ref y])) (by simp [cpf, va_up_self, va_rf])] at hP hD
  have hy : y ∉ (pN P q 5 v 0 (some y) 0 (fun _ => 0) (fun _ => none)).1 := cn_notin (Y := []) (by rw [List.append_nil]; exact hD)
  rw [cn_push (k := 7) (v := 0) (w := 0) (o := none) (n := N) (f := fun _ => 0) (h := fun _ => none) hy (.inl (ty 2, N, .inr (.inl (fun _ => 0)))) (by simp [cpf, va_up_self])] at hP hD
  have h2 : y ∉ P.1 ++ [q] := hy
  simp only [List.mem_append, List.mem_cons, List.not_mem_nil, or_false, not_or] at h2
  exact ⟨hq, h2.1, h2.2, hP, hD⟩
theorem cn_shelf (hP : va_P D vwCl (((X ++ va_pl P.1 (cpf ty P)) ++ [(q, e0)]).set (X ++ va_pl P.1 (cpf ty P)).length (q, .inr (11, [.int v, .int w, .ref y])) ++ [(y, .inl (ty 1, N, .inr (.inr (.inr (.inr (fun _ => none))))))]) H) (hD : va_D A (((X ++ va_pl P.1 (cpf ty P)) ++ [(q, e0)]).set (X ++ va_pl P.1 (cpf ty P)).length (q, .inr (11, [.int v, .int w, .ref y])) ++ [(y, .inl (ty 1, N, .inr (.inr (.inr (.inr (fun _ => none))))))])) :
    q ∉ P.1 ∧ y ∉ P.1 ∧ y ≠ q ∧ va_P D vwCl (X ++ va_pl (pShelf P q y v w N).1 (cpf ty (pShelf P q y v w N))) H ∧ va_D A (X ++ va_pl (pShelf P q y v w N).1 (cpf ty (pShelf P q y v w N))) := by
  rw [lset_last] at hP hD
  have hq : q ∉ P.1 := cn_notin hD
  rw [cn_push (k := 6) (v := v) (w := w) (o := some y) (n := 0) (f := fun _ => 0) (h := fun _ => none) hq (.inr (11, [.int v, .int w, .ref y])) (by simp [cpf, va_up_self, va_rf])] at hP hD
  have hy : y ∉ (pN P q 6 v w (some y) 0 (fun _ => 0) (fun _ => none)).1 := cn_notin (Y := []) (by rw [List.append_nil]; exact hD)
  rw [cn_push (k := 8) (v := 0) (w := 0) (o := none) (n := N) (f := fun _ => 0) (h := fun _ => none) hy (.inl (ty 1, N, .inr (.inr (.inr (.inr (fun _ => none)))))) (by simp [cpf, va_up_self])] at hP hD
  have h2 : y ∉ P.1 ++ [q] := hy
  simp only [List.mem_append, List.mem_cons, List.not_mem_nil, or_false, not_or] at h2
  exact ⟨hq, h2.1, h2.2, hP, hD⟩
theorem cn_box {k : Nat} {fs : List Value} {ci : Nat} (he : cpf ty (pBox P q k v w) q = .inr (ci, fs)) (hP : va_P D vwCl (((X ++ va_pl P.1 (cpf ty P)) ++ [(q, e0)]).set (X ++ va_pl P.1 (cpf ty P)).length (q, .inr (ci, fs))) H) (hD : va_D A (((X ++ va_pl P.1 (cpf ty P)) ++ [(q, e0)]).set (X ++ va_pl P.1 (cpf ty P)).length (q, .inr (ci, fs)))) :
    q ∉ P.1 ∧ va_P D vwCl (X ++ va_pl (pBox P q k v w).1 (cpf ty (pBox P q k v w))) H ∧ va_D A (X ++ va_pl (pBox P q k v w).1 (cpf ty (pBox P q k v w))) := by
  rw [lset_last] at hP hD
  have hq : q ∉ P.1 := cn_notin (Y := []) (by rw [List.append_nil]; exact hD)
  rw [cn_push (k := k) (v := v) (w := w) (o := none) (n := 0) (f := fun _ => 0) (h := fun _ => none) hq _ he] at hP hD
  exact ⟨hq, hP, hD⟩
theorem cn_in (hq : q ∉ P.1) : q ∈ (pRow P q y v N).1 ∧ (y ≠ q → (pRow P q y v N).2.1 q = 5) := by
  refine ⟨by simp, fun h => ?_⟩
  show va_up (va_up P.2.1 q 5) y 7 q = 5
  rw [va_up_ne _ _ (Ne.symm h), va_up_self]
theorem cn_inS (hq : q ∉ P.1) : q ∈ (pShelf P q y v w N).1 ∧ (y ≠ q → (pShelf P q y v w N).2.1 q = 6) := by
  refine ⟨by simp, fun h => ?_⟩
  show va_up (va_up P.2.1 q 6) y 8 q = 6
  rw [va_up_ne _ _ (Ne.symm h), va_up_self]
theorem cn_inB {k : Nat} : q ∈ (pBox P q k v w).1 ∧ (pBox P q k v w).2.1 q = k := ⟨by simp, by show va_up P.2.1 q k q = k; rw [va_up_self]⟩
end CPush

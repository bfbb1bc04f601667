/-! ===== writes into the pool ===== -/
abbrev pVa (P : cQ) (a : Nat) (v : Int32) : cQ := (P.1, P.2.1, va_up P.2.2.1 a v, P.2.2.2.1, P.2.2.2.2.1, P.2.2.2.2.2.1, P.2.2.2.2.2.2.1, P.2.2.2.2.2.2.2)
abbrev pNx (P : cQ) (a : Nat) (o : Option Nat) : cQ := (P.1, P.2.1, P.2.2.1, P.2.2.2.1, va_up P.2.2.2.2.1 a o, P.2.2.2.2.2.1, P.2.2.2.2.2.2.1, P.2.2.2.2.2.2.2)
abbrev pLc (P : cQ) (a : Nat) (f : Nat → Int64) : cQ := (P.1, P.2.1, P.2.2.1, P.2.2.2.1, P.2.2.2.2.1, P.2.2.2.2.2.1, va_up P.2.2.2.2.2.2.1 a f, P.2.2.2.2.2.2.2)
abbrev pRc (P : cQ) (a : Nat) (f : Nat → Option Nat) : cQ := (P.1, P.2.1, P.2.2.1, P.2.2.2.1, P.2.2.2.2.1, P.2.2.2.2.2.1, P.2.2.2.2.2.2.1, va_up P.2.2.2.2.2.2.2 a f)
theorem cs_at {A : Nat → Prop} {X : va_W} {ty : Nat → ClassId} {P P' : cQ} {a j : Nat} {e : va_E} (hD : va_D A (X ++ va_pl P.1 (cpf ty P))) (ha : a ∈ P.1) (hj : (X ++ va_pl P.1 (cpf ty P))[j]? = some (a, cpf ty P a)) (hL : P'.1 = P.1) (he : ∀ b, va_up (cpf ty P) a e b = cpf ty P' b) : (X ++ va_pl P.1 (cpf ty P)).set j (a, e) = X ++ va_pl P'.1 (cpf ty P') := by
  rw [va_pl_set hD ha hj, hL]
  exact congrArg (fun q => X ++ q) (va_pl_congr he)
theorem cup_7 {ty : Nat → ClassId} {P : cQ} {a : Nat} (hk : P.2.1 a = 7) (f : Nat → Int64) (b : Nat) : va_up (cpf ty P) a (.inl (ty 2, P.2.2.2.2.2.1 a, .inr (.inl f))) b = cpf ty (pLc P a f) b := by
  by_cases h : b = a
  · subst h; rw [va_up_self]; simp [cpf, hk, va_up_self]
  · rw [va_up_ne _ _ h]; simp [cpf, va_up_ne _ _ h]
theorem cup_8 {ty : Nat → ClassId} {P : cQ} {a : Nat} (hk : P.2.1 a = 8) (f : Nat → Option Nat) (b : Nat) : va_up (cpf ty P) a (.inl (ty 1, P.2.2.2.2.2.1 a, .inr (.inr (.inr (.inr f))))) b = cpf ty (pRc P a f) b := by
  by_cases h : b = a
  · subst h; rw [va_up_self]; simp [cpf, hk, va_up_self]
  · rw [va_up_ne _ _ h]; simp [cpf, va_up_ne _ _ h]
theorem cs_7 {A : Nat → Prop} {X : va_W} {ty : Nat → ClassId} {P : cQ} {a j : Nat} (hD : va_D A (X ++ va_pl P.1 (cpf ty P))) (ha : a ∈ P.1) (hk : P.2.1 a = 7) (hj : (X ++ va_pl P.1 (cpf ty P))[j]? = some (a, .inl (ty 2, P.2.2.2.2.2.1 a, .inr (.inl (P.2.2.2.2.2.2.1 a))))) (f : Nat → Int64) : (X ++ va_pl P.1 (cpf ty P)).set j (a, .inl (ty 2, P.2.2.2.2.2.1 a, .inr (.inl f))) = X ++ va_pl (pLc P a f).1 (cpf ty (pLc P a f)) :=
  cs_at hD ha (by rw [hj, cpf_7 hk]) rfl (cup_7 hk f)
theorem cs_8 {A : Nat → Prop} {X : va_W} {ty : Nat → ClassId} {P : cQ} {a j : Nat} (hD : va_D A (X ++ va_pl P.1 (cpf ty P))) (ha : a ∈ P.1) (hk : P.2.1 a = 8) (hj : (X ++ va_pl P.1 (cpf ty P))[j]? = some (a, .inl (ty 1, P.2.2.2.2.2.1 a, .inr (.inr (.inr (.inr (P.2.2.2.2.2.2.2 a))))))) (f : Nat → Option Nat) : (X ++ va_pl P.1 (cpf ty P)).set j (a, .inl (ty 1, P.2.2.2.2.2.1 a, .inr (.inr (.inr (.inr f))))) = X ++ va_pl (pRc P a f).1 (cpf ty (pRc P a f)) :=
  cs_at hD ha (by rw [hj, cpf_8 hk]) rfl (cup_8 hk f)
theorem cIs_0 {k : Nat} (h : cIs k 0 = true) : k = 5 := by simpa [cIs] using h
theorem cIs_1 {k : Nat} (h : cIs k 1 = true) : k = 6 := by simpa [cIs] using h
theorem cIs_2 {k : Nat} (h : cIs k 2 = true) : k < 3 := by have : k ≤ 2 := by simpa [cIs] using h
                                                           omega
theorem cIs_3 {k : Nat} (h : cIs k 3 = true) : k = 0 ∨ k = 1 ∨ k = 3 := by
  simp [cIs] at h
  omega
theorem cIs_4 {k : Nat} (h : cIs k 4 = true) : k < 2 := by have : k ≤ 1 := by simpa [cIs] using h
                                                           omega
theorem cIs_5 {k : Nat} (h : cIs k 5 = true) : k = 4 := by simpa [cIs] using h
theorem k3 {P : Nat → Prop} (h0 : P 0) (h1 : P 1) (h2 : P 2) {k : Nat} (hk : k < 3) : P k := by
  match k, hk with
  | 0, _ => exact h0
  | 1, _ => exact h1
  | 2, _ => exact h2
theorem cg_row {X : va_W} {ty : Nat → ClassId} {pl : Nat → Option Nat} {P : cQ} {a : Nat} (wf : cWF pl P) (ha : a ∈ P.1) (hk : P.2.1 a = 5) : ∃ j r i : Nat, (X ++ va_pl P.1 (cpf ty P))[j]? = some (a, .inr (10, [.int (P.2.2.1 a), .ref r])) ∧ P.2.2.2.2.1 a = some r ∧ r ∈ P.1 ∧ P.2.1 r = 7 ∧ P.2.2.2.2.2.1 r < 100 ∧ (X ++ va_pl P.1 (cpf ty P))[i]? = some (r, .inl (ty 2, P.2.2.2.2.2.1 r, .inr (.inl (P.2.2.2.2.2.2.1 r)))) := by
  obtain ⟨j, hj⟩ := cg_k (X := X) (ty := ty) ha hk (by decide)
  obtain ⟨r, hr, hin, hrk, hl⟩ := wf.2.2.1 a ha hk
  obtain ⟨i, hi⟩ := cg_7 (X := X) (ty := ty) hin hrk
  exact ⟨j, r, i, by rw [hj]; simp [cFs, hk, cCi, hr, va_rf], hr, hin, hrk, hl, hi⟩
theorem cg_shelf {X : va_W} {ty : Nat → ClassId} {pl : Nat → Option Nat} {P : cQ} {a : Nat} (wf : cWF pl P) (ha : a ∈ P.1) (hk : P.2.1 a = 6) : ∃ j r i : Nat, (X ++ va_pl P.1 (cpf ty P))[j]? = some (a, .inr (11, [.int (P.2.2.1 a), .int (P.2.2.2.1 a), .ref r])) ∧ P.2.2.2.2.1 a = some r ∧ r ∈ P.1 ∧ P.2.1 r = 8 ∧ P.2.2.2.2.2.1 r < 100 ∧ (X ++ va_pl P.1 (cpf ty P))[i]? = some (r, .inl (ty 1, P.2.2.2.2.2.1 r, .inr (.inr (.inr (.inr (P.2.2.2.2.2.2.2 r)))))) := by
  obtain ⟨j, hj⟩ := cg_k (X := X) (ty := ty) ha hk (by decide)
  obtain ⟨r, hr, hin, hrk, hl⟩ := wf.2.2.2.1 a ha hk
  obtain ⟨i, hi⟩ := cg_8 (X := X) (ty := ty) hin hrk
  exact ⟨j, r, i, by rw [hj]; simp [cFs, hk, cCi, hr, va_rf], hr, hin, hrk, hl, hi⟩
theorem cg_letter {X : va_W} {ty : Nat → ClassId} {P : cQ} {a : Nat} (ha : a ∈ P.1) (hk : P.2.1 a = 4) : ∃ j : Nat, (X ++ va_pl P.1 (cpf ty P))[j]? = some (a, .inr (9, [.int (P.2.2.1 a)])) := by
  obtain ⟨j, hj⟩ := cg_k (X := X) (ty := ty) ha hk (by decide)
  exact ⟨j, by rw [hj]; simp [cFs, hk, cCi]⟩
section CPool2
variable {p : Program} {l : Launch} {e : Env} {R : Room} {s : State} {m : MethodId} {args : Array Value} {below : List Frame} {meth : Method} {c : Code} {H : Heap} {locs : List Loc} {cells slots : Nat} {Q : State → Prop}
variable {cc : ByteArray} {pc nL : Nat} {ls : Array Slot} {rest : List Value} {D : va_G} {tys : List (ClassId × FieldType)} {X : va_W} {ty : Nat → ClassId} {P : cQ} {a : Nat} {own : String} {A : Nat → Prop} {H0 : Heap}
theorem cg_box {k : Nat} (ha : a ∈ P.1) (h : P.2.1 a = k) (hk : k < 7) (fs : List Value) (hf : cFs P a = fs) : ∃ j : Nat, (X ++ va_pl P.1 (cpf ty P))[j]? = some (a, .inr (cCi k, fs)) ∧ (X ++ va_pl P.1 (cpf ty P))[j]? = some (a, cpf ty P a) := by
  obtain ⟨j, hj⟩ := cg_at (X := X) (ty := ty) ha
  exact ⟨j, by rw [hj, cpf_k h hk, hf], hj⟩
/-- box.value -/
theorem cB_getv {index : Nat} (hx : p.tables.exec = Jvm.exec) (hb : c.code = cc) (hown : s.vm.findClass own = some m.cls) (hg : ∀ w ∈ gT, w.before args s = true) (hK : va_K D vwCl tys s) (hP : va_P D vwCl (X ++ va_pl P.1 (cpf ty P)) H) (ha : a ∈ P.1) (hk : P.2.1 a < 3) (hl : (Cond.fieldLink own index "FaultMill$Box" "value" "I").before args s = true) (hdg : decode cc pc = .ok (.getfield index, 3))
    (kk : W p l e R s m args below meth c H locs cells slots Q (F0 m (pc + 3) ls (.int (P.2.2.1 a) :: rest))) : W p l e R s m args below meth c H locs cells slots Q (F0 m pc ls (.ref a :: rest)) := by
  obtain ⟨k, hke⟩ : ∃ k, P.2.1 a = k := ⟨_, rfl⟩
  rw [hke] at hk
  refine k3 (P := fun k => P.2.1 a = k → W p l e R s m args below meth c H locs cells slots Q (F0 m pc ls (.ref a :: rest))) ?_ ?_ ?_ hk hke <;> intro hke
  · obtain ⟨j, hj, -⟩ := cg_box (X := X) (ty := ty) ha hke (by decide) _ (by simp only [cFs, hke]; rfl)
    exact va_get (ci := 5) (C := RX0) (T := TX0) (N := 3) hx hb hg inG0 hown hK hP j hj rfl 1 (by decide) hl (fun _ h9 => h9) rfl hdg kk
  · obtain ⟨j, hj, -⟩ := cg_box (X := X) (ty := ty) ha hke (by decide) _ (by simp only [cFs, hke]; rfl)
    exact va_get (ci := 7) (C := RX3) (T := TX3) (N := 3) hx hb hg inG3 hown hK hP j hj rfl 0 (by decide) hl (fun _ h9 => h9) rfl hdg kk
  · obtain ⟨j, hj, -⟩ := cg_box (X := X) (ty := ty) ha hke (by decide) _ (by simp only [cFs, hke]; rfl)
    exact va_get (ci := 12) (C := RX9) (T := TX9) (N := 2) hx hb hg inG9 hown hK hP j hj rfl 0 (by decide) hl (fun _ h9 => h9) rfl hdg kk
/-- box.next -/
theorem cB_getn {index : Nat} (hx : p.tables.exec = Jvm.exec) (hb : c.code = cc) (hown : s.vm.findClass own = some m.cls) (hg : ∀ w ∈ gT, w.before args s = true) (hK : va_K D vwCl tys s) (hP : va_P D vwCl (X ++ va_pl P.1 (cpf ty P)) H) (ha : a ∈ P.1) (hk : P.2.1 a < 3) (hl : (Cond.fieldLink own index "FaultMill$Box" "next" "LFaultMill$Box;").before args s = true) (hdg : decode cc pc = .ok (.getfield index, 3))
    (kk : W p l e R s m args below meth c H locs cells slots Q (F0 m (pc + 3) ls (va_rf (P.2.2.2.2.1 a) :: rest))) : W p l e R s m args below meth c H locs cells slots Q (F0 m pc ls (.ref a :: rest)) := by
  obtain ⟨k, hke⟩ : ∃ k, P.2.1 a = k := ⟨_, rfl⟩
  rw [hke] at hk
  refine k3 (P := fun k => P.2.1 a = k → W p l e R s m args below meth c H locs cells slots Q (F0 m pc ls (.ref a :: rest))) ?_ ?_ ?_ hk hke <;> intro hke
  · obtain ⟨j, hj, -⟩ := cg_box (X := X) (ty := ty) ha hke (by decide) _ (by simp only [cFs, hke]; rfl)
    exact va_get (ci := 5) (C := RX0) (T := TX0) (N := 3) hx hb hg inG0 hown hK hP j hj rfl 2 (by decide) hl (fun _ h9 => h9) rfl hdg kk
  · obtain ⟨j, hj, -⟩ := cg_box (X := X) (ty := ty) ha hke (by decide) _ (by simp only [cFs, hke]; rfl)
    exact va_get (ci := 7) (C := RX3) (T := TX3) (N := 3) hx hb hg inG3 hown hK hP j hj rfl 1 (by decide) hl (fun _ h9 => h9) rfl hdg kk
  · obtain ⟨j, hj, -⟩ := cg_box (X := X) (ty := ty) ha hke (by decide) _ (by simp only [cFs, hke]; rfl)
    exact va_get (ci := 12) (C := RX9) (T := TX9) (N := 2) hx hb hg inG9 hown hK hP j hj rfl 1 (by decide) hl (fun _ h9 => h9) rfl hdg kk
/-- disc.rim -/
theorem cB_rim {index : Nat} (hx : p.tables.exec = Jvm.exec) (hb : c.code = cc) (hown : s.vm.findClass own = some m.cls) (hg : ∀ w ∈ gT, w.before args s = true) (hK : va_K D vwCl tys s) (hP : va_P D vwCl (X ++ va_pl P.1 (cpf ty P)) H) (ha : a ∈ P.1) (hk : P.2.1 a < 2) (hl : (Cond.fieldLink own index "FaultMill$Disc" "rim" "I").before args s = true) (hdg : decode cc pc = .ok (.getfield index, 3))
    (kk : W p l e R s m args below meth c H locs cells slots Q (F0 m (pc + 3) ls (.int (P.2.2.2.1 a) :: rest))) : W p l e R s m args below meth c H locs cells slots Q (F0 m pc ls (.ref a :: rest)) := by
  have h2 : P.2.1 a = 0 ∨ P.2.1 a = 1 := by omega
  rcases h2 with hke | hke
  · obtain ⟨j, hj, -⟩ := cg_box (X := X) (ty := ty) ha hke (by decide) _ (by simp only [cFs, hke]; rfl)
    exact va_get (ci := 5) (C := RX0) (T := TX0) (N := 3) hx hb hg inG0 hown hK hP j hj rfl 0 (by decide) hl (fun _ h9 => h9) rfl hdg kk
  · obtain ⟨j, hj, -⟩ := cg_box (X := X) (ty := ty) ha hke (by decide) _ (by simp only [cFs, hke]; rfl)
    exact va_get (ci := 7) (C := RX3) (T := TX3) (N := 3) hx hb hg inG3 hown hK hP j hj rfl 2 (by decide) hl (fun _ h9 => h9) rfl hdg kk
theorem cup_v {P : cQ} {a : Nat} (v : Int32) (b : Nat) (hk : P.2.1 a < 3) : va_up (cpf ty P) a (.inr (cCi (P.2.1 a), cFs (pVa P a v) a)) b = cpf ty (pVa P a v) b := by
  by_cases h : b = a
  · subst h; rw [va_up_self]; exact (cpf_k (ty := ty) (P := pVa P b v) (a := b) rfl (by show P.2.1 b < 7; omega)).symm
  · rw [va_up_ne _ _ h]; simp [cpf, va_up_ne _ _ h]
theorem cup_n {P : cQ} {a : Nat} (o : Option Nat) (b : Nat) (hk : P.2.1 a < 3) : va_up (cpf ty P) a (.inr (cCi (P.2.1 a), cFs (pNx P a o) a)) b = cpf ty (pNx P a o) b := by
  by_cases h : b = a
  · subst h; rw [va_up_self]; exact (cpf_k (ty := ty) (P := pNx P b o) (a := b) rfl (by show P.2.1 b < 7; omega)).symm
  · rw [va_up_ne _ _ h]; simp [cpf, va_up_ne _ _ h]
/-- box.value = v -/
theorem cB_putv {index : Nat} {v : Int32} (hx : p.tables.exec = Jvm.exec) (hb : c.code = cc) (hown : s.vm.findClass own = some m.cls) (hg : ∀ w ∈ gT, w.before args s = true) (hK : va_K D vwCl tys s) (hP : va_P D vwCl (X ++ va_pl P.1 (cpf ty P)) H) (hD : va_D A (X ++ va_pl P.1 (cpf ty P))) (hS : va_S A H0 H locs) (ha : a ∈ P.1) (hk : P.2.1 a < 3) (hl : (Cond.fieldLink own index "FaultMill$Box" "value" "I").before args s = true) (hdg : decode cc pc = .ok (.putfield index, 3))
    (kk : ∀ (H1 : Heap) (locs1 : List Loc), va_P D vwCl (X ++ va_pl (pVa P a v).1 (cpf ty (pVa P a v))) H1 → va_D A (X ++ va_pl (pVa P a v).1 (cpf ty (pVa P a v))) → va_S A H0 H1 locs1 → W p l e R s m args below meth c H1 locs1 cells slots Q (F0 m (pc + 3) ls rest)) : W p l e R s m args below meth c H locs cells slots Q (F0 m pc ls (.int v :: .ref a :: rest)) := by
  have hup := fun b => cup_v (ty := ty) v b hk
  have e1 : ∀ (k : Nat), P.2.1 a = k → ∀ (fs : List Value) (j : Nat), cFs (pVa P a v) a = fs → (X ++ va_pl P.1 (cpf ty P))[j]? = some (a, cpf ty P a) → (X ++ va_pl P.1 (cpf ty P)).set j (a, .inr (cCi k, fs)) = X ++ va_pl (pVa P a v).1 (cpf ty (pVa P a v)) := by
    intro k h fs j hf hj
    subst h; subst hf
    exact cs_at hD ha hj rfl hup
  obtain ⟨k, hke⟩ : ∃ k, P.2.1 a = k := ⟨_, rfl⟩
  rw [hke] at hk
  refine k3 (P := fun k => P.2.1 a = k → W p l e R s m args below meth c H locs cells slots Q (F0 m pc ls (.int v :: .ref a :: rest))) ?_ ?_ ?_ hk hke <;> intro hke
  · obtain ⟨j, hj, hj2⟩ := cg_box (X := X) (ty := ty) ha hke (by decide) _ (by simp only [cFs, hke]; rfl)
    refine va_put (ci := 5) (ty := .int) (C := RX0) (T := TX0) (N := 3) hx hb hg inG0 tyX0 tyX0_ok nmX0 hown hK hP hD hS j hj rfl 1 (by decide) hl (fun _ h9 => h9) rfl (by decide +kernel) rfl rfl (Nat.le_of_ble_eq_true rfl) hdg (fun H1 locs1 hP1 hD1 hS1 => ?_)
    have e := e1 0 hke _ j (show cFs (pVa P a v) a = [.int (P.2.2.2.1 a), .int v, va_rf (P.2.2.2.2.1 a)] by simp [cFs, hke, va_up_self]) hj2
    exact kk H1 locs1 (e ▸ hP1) (e ▸ hD1) hS1
  · obtain ⟨j, hj, hj2⟩ := cg_box (X := X) (ty := ty) ha hke (by decide) _ (by simp only [cFs, hke]; rfl)
    refine va_put (ci := 7) (ty := .int) (C := RX3) (T := TX3) (N := 3) hx hb hg inG3 tyX3 tyX3_ok nmX3 hown hK hP hD hS j hj rfl 0 (by decide) hl (fun _ h9 => h9) rfl (by decide +kernel) rfl rfl (Nat.le_of_ble_eq_true rfl) hdg (fun H1 locs1 hP1 hD1 hS1 => ?_)
    have e := e1 1 hke _ j (show cFs (pVa P a v) a = [.int v, va_rf (P.2.2.2.2.1 a), .int (P.2.2.2.1 a)] by simp [cFs, hke, va_up_self]) hj2
    exact kk H1 locs1 (e ▸ hP1) (e ▸ hD1) hS1
  · obtain ⟨j, hj, hj2⟩ := cg_box (X := X) (ty := ty) ha hke (by decide) _ (by simp only [cFs, hke]; rfl)
    refine va_put (ci := 12) (ty := .int) (C := RX9) (T := TX9) (N := 2) hx hb hg inG9 tyX9 tyX9_ok nmX9 hown hK hP hD hS j hj rfl 0 (by decide) hl (fun _ h9 => h9) rfl (by decide +kernel) rfl rfl (Nat.le_of_ble_eq_true rfl) hdg (fun H1 locs1 hP1 hD1 hS1 => ?_)
    have e := e1 2 hke _ j (show cFs (pVa P a v) a = [.int v, va_rf (P.2.2.2.2.1 a)] by simp [cFs, hke, va_up_self]) hj2
    exact kk H1 locs1 (e ▸ hP1) (e ▸ hD1) hS1
/-- box.next = o -/
theorem cB_putn {index : Nat} {o : Option Nat} (hx : p.tables.exec = Jvm.exec) (hb : c.code = cc) (hown : s.vm.findClass own = some m.cls) (hg : ∀ w ∈ gT, w.before args s = true) (hK : va_K D vwCl tys s) (hP : va_P D vwCl (X ++ va_pl P.1 (cpf ty P)) H) (hD : va_D A (X ++ va_pl P.1 (cpf ty P))) (hS : va_S A H0 H locs) (ha : a ∈ P.1) (hk : P.2.1 a < 3) (hl : (Cond.fieldLink own index "FaultMill$Box" "next" "LFaultMill$Box;").before args s = true) (hdg : decode cc pc = .ok (.putfield index, 3))
    (kk : ∀ (H1 : Heap) (locs1 : List Loc), va_P D vwCl (X ++ va_pl (pNx P a o).1 (cpf ty (pNx P a o))) H1 → va_D A (X ++ va_pl (pNx P a o).1 (cpf ty (pNx P a o))) → va_S A H0 H1 locs1 → W p l e R s m args below meth c H1 locs1 cells slots Q (F0 m (pc + 3) ls rest)) : W p l e R s m args below meth c H locs cells slots Q (F0 m pc ls (va_rf o :: .ref a :: rest)) := by
  have hn : narrow (.object "FaultMill$Box") (va_rf o) = va_rf o := by cases o <;> rfl
  have hfit : fits (.object "FaultMill$Box") (va_rf o) = true := by cases o <;> rfl
  have hup := fun b => cup_n (ty := ty) o b hk
  have e1 : ∀ (k : Nat), P.2.1 a = k → ∀ (fs : List Value) (j : Nat), cFs (pNx P a o) a = fs → (X ++ va_pl P.1 (cpf ty P))[j]? = some (a, cpf ty P a) → (X ++ va_pl P.1 (cpf ty P)).set j (a, .inr (cCi k, fs)) = X ++ va_pl (pNx P a o).1 (cpf ty (pNx P a o)) := by
    intro k h fs j hf hj
    subst h; subst hf
    exact cs_at hD ha hj rfl hup
  obtain ⟨k, hke⟩ : ∃ k, P.2.1 a = k := ⟨_, rfl⟩
  rw [hke] at hk
  refine k3 (P := fun k => P.2.1 a = k → W p l e R s m args below meth c H locs cells slots Q (F0 m pc ls (va_rf o :: .ref a :: rest))) ?_ ?_ ?_ hk hke <;> intro hke
  · obtain ⟨j, hj, hj2⟩ := cg_box (X := X) (ty := ty) ha hke (by decide) _ (by simp only [cFs, hke]; rfl)
    refine va_put (ci := 5) (ty := .object "FaultMill$Box") (C := RX0) (T := TX0) (N := 3) hx hb hg inG0 tyX0 tyX0_ok nmX0 hown hK hP hD hS j hj rfl 2 (by decide) hl (fun _ h9 => h9) rfl (by decide +kernel) hn hfit (Nat.le_of_ble_eq_true rfl) hdg (fun H1 locs1 hP1 hD1 hS1 => ?_)
    have e := e1 0 hke _ j (show cFs (pNx P a o) a = [.int (P.2.2.2.1 a), .int (P.2.2.1 a), va_rf o] by simp [cFs, hke, va_up_self]) hj2
    exact kk H1 locs1 (e ▸ hP1) (e ▸ hD1) hS1
  · obtain ⟨j, hj, hj2⟩ := cg_box (X := X) (ty := ty) ha hke (by decide) _ (by simp only [cFs, hke]; rfl)
    refine va_put (ci := 7) (ty := .object "FaultMill$Box") (C := RX3) (T := TX3) (N := 3) hx hb hg inG3 tyX3 tyX3_ok nmX3 hown hK hP hD hS j hj rfl 1 (by decide) hl (fun _ h9 => h9) rfl (by decide +kernel) hn hfit (Nat.le_of_ble_eq_true rfl) hdg (fun H1 locs1 hP1 hD1 hS1 => ?_)
    have e := e1 1 hke _ j (show cFs (pNx P a o) a = [.int (P.2.2.1 a), va_rf o, .int (P.2.2.2.1 a)] by simp [cFs, hke, va_up_self]) hj2
    exact kk H1 locs1 (e ▸ hP1) (e ▸ hD1) hS1
  · obtain ⟨j, hj, hj2⟩ := cg_box (X := X) (ty := ty) ha hke (by decide) _ (by simp only [cFs, hke]; rfl)
    refine va_put (ci := 12) (ty := .object "FaultMill$Box") (C := RX9) (T := TX9) (N := 2) hx hb hg inG9 tyX9 tyX9_ok nmX9 hown hK hP hD hS j hj rfl 1 (by decide) hl (fun _ h9 => h9) rfl (by decide +kernel) hn hfit (Nat.le_of_ble_eq_true rfl) hdg (fun H1 locs1 hP1 hD1 hS1 => ?_)
    have e := e1 2 hke _ j (show cFs (pNx P a o) a = [.int (P.2.2.1 a), va_rf o] by simp [cFs, hke, va_up_self]) hj2
    exact kk H1 locs1 (e ▸ hP1) (e ▸ hD1) hS1
end CPool2

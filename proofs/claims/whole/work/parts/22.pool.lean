/-! ===== things of the pool: what they are, what is read and written ===== -/
def cCi (k : Nat) : Nat := match k with
  | 0 => 5 | 1 => 7 | 2 => 12 | 3 => 8 | 4 => 9 | 5 => 10 | _ => 11
def cFs (P : cQ) (a : Nat) : List Value := match P.2.1 a with
  | 0 => [.int (P.2.2.2.1 a), .int (P.2.2.1 a), va_rf (P.2.2.2.2.1 a)]
  | 1 => [.int (P.2.2.1 a), va_rf (P.2.2.2.2.1 a), .int (P.2.2.2.1 a)]
  | 2 => [.int (P.2.2.1 a), va_rf (P.2.2.2.2.1 a)]
  | 3 => [.int (P.2.2.1 a)]
  | 4 => [.int (P.2.2.1 a)]
  | 5 => [.int (P.2.2.1 a), va_rf (P.2.2.2.2.1 a)]
  | _ => [.int (P.2.2.1 a), .int (P.2.2.2.1 a), va_rf (P.2.2.2.2.1 a)]
theorem k7 {P : Nat → Prop} (h0 : P 0) (h1 : P 1) (h2 : P 2) (h3 : P 3) (h4 : P 4) (h5 : P 5) (h6 : P 6) {k : Nat} (hk : k < 7) : P k := by
  match k, hk with
  | 0, _ => exact h0
  | 1, _ => exact h1
  | 2, _ => exact h2
  | 3, _ => exact h3
  | 4, _ => exact h4
  | 5, _ => exact h5
  | 6, _ => exact h6
theorem cpf_k {ty : Nat → ClassId} {P : cQ} {a k : Nat} (h : P.2.1 a = k) (hk : k < 7) : cpf ty P a = .inr (cCi k, cFs P a) := by
  revert h
  refine k7 (P := fun k => P.2.1 a = k → cpf ty P a = .inr (cCi k, cFs P a)) ?_ ?_ ?_ ?_ ?_ ?_ ?_ hk <;> intro h <;> simp [cpf, cFs, cCi, h]
theorem cpf_7 {ty : Nat → ClassId} {P : cQ} {a : Nat} (h : P.2.1 a = 7) : cpf ty P a = .inl (ty 2, P.2.2.2.2.2.1 a, .inr (.inl (P.2.2.2.2.2.2.1 a))) := by simp [cpf, h]
theorem cpf_8 {ty : Nat → ClassId} {P : cQ} {a : Nat} (h : P.2.1 a = 8) : cpf ty P a = .inl (ty 1, P.2.2.2.2.2.1 a, .inr (.inr (.inr (.inr (P.2.2.2.2.2.2.2 a))))) := by simp [cpf, h]
theorem cCi_ok {k : Nat} (hk : k < 7) : ∃ q : vw_C, vwCl[cCi k]? = some q ∧ q.1 = cNm k :=
  k7 (P := fun k => ∃ q : vw_C, vwCl[cCi k]? = some q ∧ q.1 = cNm k) ⟨_, rfl, rfl⟩ ⟨_, rfl, rfl⟩ ⟨_, rfl, rfl⟩ ⟨_, rfl, rfl⟩ ⟨_, rfl, rfl⟩ ⟨_, rfl, rfl⟩ ⟨_, rfl, rfl⟩ hk
/-- the place of a pooled thing in the world -/
theorem cg_at {X : va_W} {ty : Nat → ClassId} {P : cQ} {a : Nat} (ha : a ∈ P.1) : ∃ k : Nat, (X ++ va_pl P.1 (cpf ty P))[k]? = some (a, cpf ty P a) := va_pl_get ha
theorem cg_k {X : va_W} {ty : Nat → ClassId} {P : cQ} {a k : Nat} (ha : a ∈ P.1) (h : P.2.1 a = k) (hk : k < 7) : ∃ j : Nat, (X ++ va_pl P.1 (cpf ty P))[j]? = some (a, .inr (cCi k, cFs P a)) := by
  obtain ⟨j, hj⟩ := cg_at (X := X) (ty := ty) ha
  exact ⟨j, by rw [hj, cpf_k h hk]⟩
theorem cg_7 {X : va_W} {ty : Nat → ClassId} {P : cQ} {a : Nat} (ha : a ∈ P.1) (h : P.2.1 a = 7) : ∃ j : Nat, (X ++ va_pl P.1 (cpf ty P))[j]? = some (a, .inl (ty 2, P.2.2.2.2.2.1 a, .inr (.inl (P.2.2.2.2.2.2.1 a)))) := by
  obtain ⟨j, hj⟩ := cg_at (X := X) (ty := ty) ha
  exact ⟨j, by rw [hj, cpf_7 h]⟩
theorem cg_8 {X : va_W} {ty : Nat → ClassId} {P : cQ} {a : Nat} (ha : a ∈ P.1) (h : P.2.1 a = 8) : ∃ j : Nat, (X ++ va_pl P.1 (cpf ty P))[j]? = some (a, .inl (ty 1, P.2.2.2.2.2.1 a, .inr (.inr (.inr (.inr (P.2.2.2.2.2.2.2 a)))))) := by
  obtain ⟨j, hj⟩ := cg_at (X := X) (ty := ty) ha
  exact ⟨j, by rw [hj, cpf_8 h]⟩
/-- what isOf answers -/
def kOf (k : Nat) (v s : Int32) : Bool := match k with
  | 0 => s == 12 || (s == 13 || s == 14) | 1 => s == 12 || (s == 13 || s == 14) | 2 => s == 12 | 3 => s == 14 | 4 => s == 15 | 5 => s == v | _ => s == v || (s == 9 && v == 10)
/-- what holds of every pool: what is at a place, next of a box, in a shelf, is a thing of the pool (of its kind); a row's and a shelf's cells are a row of longs, of things, its own; the sorts are those that there are -/
def cWF (pl : Nat → Option Nat) (P : cQ) : Prop :=
  (∀ x t, pl x = some t → t ∈ P.1 ∧ P.2.1 t < 7) ∧
  (∀ a t, a ∈ P.1 → P.2.1 a < 3 → P.2.2.2.2.1 a = some t → t ∈ P.1 ∧ P.2.1 t < 3) ∧
  (∀ a, a ∈ P.1 → P.2.1 a = 5 → ∃ r, P.2.2.2.2.1 a = some r ∧ r ∈ P.1 ∧ P.2.1 r = 7 ∧ P.2.2.2.2.2.1 r < 100) ∧
  (∀ a, a ∈ P.1 → P.2.1 a = 6 → ∃ r, P.2.2.2.2.1 a = some r ∧ r ∈ P.1 ∧ P.2.1 r = 8 ∧ P.2.2.2.2.2.1 r < 100) ∧
  (∀ r j t, r ∈ P.1 → P.2.1 r = 8 → P.2.2.2.2.2.2.2 r j = some t → t ∈ P.1 ∧ P.2.1 t < 7) ∧
  (∀ a, a ∈ P.1 → P.2.1 a = 6 → (P.2.2.1 a = 8 ∧ P.2.2.2.1 a = 0) ∨ (P.2.2.1 a = 9 ∧ P.2.2.2.1 a = 12) ∨ (P.2.2.1 a = 10 ∧ P.2.2.2.1 a = 13) ∨ (P.2.2.1 a = 11 ∧ P.2.2.2.1 a = 14)) ∧
  (∀ a, a ∈ P.1 → P.2.1 a = 5 → ∃ k : Nat, k < 8 ∧ P.2.2.1 a = nI k) ∧
  (∀ a, a ∈ P.1 → P.2.1 a = 4 → ∃ k : Nat, k < 7 ∧ P.2.2.1 a = nI k) ∧
  (∀ a r j t, a ∈ P.1 → P.2.1 a = 6 → P.2.2.2.2.1 a = some r → P.2.2.2.2.2.2.2 r j = some t → kOf (P.2.1 t) (P.2.2.1 t) (P.2.2.2.1 a) = true) ∧
  (∀ a b r, a ∈ P.1 → b ∈ P.1 → (P.2.1 a = 5 ∨ P.2.1 a = 6) → (P.2.1 b = 5 ∨ P.2.1 b = 6) → P.2.2.2.2.1 a = some r → P.2.2.2.2.1 b = some r → a = b)
section CPool
variable {p : Program} {l : Launch} {e : Env} {R : Room} {s : State} {m : MethodId} {args : Array Value} {below : List Frame} {meth : Method} {c : Code} {H : Heap} {locs : List Loc} {cells slots : Nat} {Q : State → Prop}
variable {cc : ByteArray} {pc nL : Nat} {ls : Array Slot} {rest : List Value} {D : va_G} {tys : List (ClassId × FieldType)} {X : va_W} {ty : Nat → ClassId} {P : cQ} {a : Nat} {own : String} {A : Nat → Prop} {H0 : Heap}
theorem cI_recv (hK : va_K D vwCl tys s) (hP : va_P D vwCl (X ++ va_pl P.1 (cpf ty P)) H) (ha : a ∈ P.1) (hk : P.2.1 a < 7) : ∃ cell : Cell, H[a]? = some cell ∧ cell.vm.isStatics = false ∧ s.vm.findClass (cNm (P.2.1 a)) = some cell.cls := by
  obtain ⟨j, hj⟩ := cg_k (X := X) (ty := ty) ha rfl hk
  obtain ⟨q, hq, hn⟩ := cCi_ok hk
  rw [← hn]
  exact va_recv hK hP hq hj
theorem cI_inst (hx : p.tables.exec = Jvm.exec) (hb : c.code = cc) (hown : s.vm.findClass own = some m.cls) (hT : cT s) (hK : va_K D vwCl tys s) (hP : va_P D vwCl (X ++ va_pl P.1 (cpf ty P)) H) (ha : a ∈ P.1) (hk : P.2.1 a < 7) (t : Nat) (ht : t < 7) {index : Nat} (hl : (Cond.classLink own index (cTg t)).before args s = true) (hdg : decode cc pc = .ok (.instanceof index, 3))
    (ky : cIs (P.2.1 a) t = true → W p l e R s m args below meth c H locs cells slots Q (F0 m (pc + 3) ls (.int 1 :: rest)))
    (kn : cIs (P.2.1 a) t = false → W p l e R s m args below meth c H locs cells slots Q (F0 m (pc + 3) ls (.int 0 :: rest))) : W p l e R s m args below meth c H locs cells slots Q (F0 m pc ls (.ref a :: rest)) := by
  cases h : cIs (P.2.1 a) t with
  | true => exact va_instY hx hb hown hl ((hT.2.2.1 _ _ hk ht).1 h) (cI_recv hK hP ha hk) hdg (ky h)
  | false => exact va_instNo hx hb hown hl ((hT.2.2.1 _ _ hk ht).2 h) (cI_recv hK hP ha hk) hdg (kn h)
theorem cI_cast (hx : p.tables.exec = Jvm.exec) (hb : c.code = cc) (hown : s.vm.findClass own = some m.cls) (hT : cT s) (hK : va_K D vwCl tys s) (hP : va_P D vwCl (X ++ va_pl P.1 (cpf ty P)) H) (ha : a ∈ P.1) (hk : P.2.1 a < 7) (t : Nat) (ht : t < 7) (h : cIs (P.2.1 a) t = true) {index : Nat} (hl : (Cond.classLink own index (cTg t)).before args s = true) (hdg : decode cc pc = .ok (.checkcast index, 3))
    (kk : W p l e R s m args below meth c H locs cells slots Q (F0 m (pc + 3) ls (.ref a :: rest))) : W p l e R s m args below meth c H locs cells slots Q (F0 m pc ls (.ref a :: rest)) :=
  va_castY hx hb hown hl ((hT.2.2.1 _ _ hk ht).1 h) (cI_recv hK hP ha hk) hdg kk
theorem cu_of {own C owner : String} {index maxL n : Nat} {x y : MethodName} {bytes : ByteArray} {ret : Option FieldType} {rm : Room} (hg : ∀ w ∈ gT, w.before args s = true) (hl : Cond.methodLink own index x ∈ gT) (hsm : Cond.sameMethod x.cls owner x.name x.desc ∈ gT) (hs : Cond.selects C x y ∈ gT) (hin : Cond.instanceMethod y ∈ gT) (hi : Cond.initialized y.cls ∈ gT) (hc : Cond.code y bytes maxL ret ∈ gT)
    (hz : va_Nw (.declares ⟨owner, x.name, x.desc⟩) s) (hd : owner ≠ "java/lang/invoke/MethodHandle" ∧ owner ≠ "java/lang/invoke/VarHandle" ∧ (parseMethodDescriptor x.desc).map (fun d => d.parameters.length) = some n) (hR : rm.frames + 1 ≤ R.frames ∧ 8 + (maxL + 11) + rm.locals ≤ R.locals) :
    va_CU R s args own C owner index x y bytes maxL ret (Cond.code y bytes maxL ret :: gT) rm rm.cells rm.slots n :=
  va_cwA n hg (gd_in fun w hw => by
    simp only [va_wsU, List.mem_append, List.mem_cons, List.not_mem_nil, or_false] at hw
    rcases hw with (rfl | rfl | rfl | rfl | rfl) | (rfl | hw)
    · exact hl
    · exact hsm
    · exact hs
    · exact hin
    · exact hi
    · exact hc
    · exact hw) rfl rfl rfl hz hd hR
/-- 'invokevirtual' that goes by the receiver's class, an int comes -/
theorem cU_i {S : Type} {wo : S → va_W} {post : Int32 → S → Prop} {x y : MethodName} {bytes : ByteArray} {maxL n index b : Nat} {ret : Option FieldType} {rm : Room} {C owner : String} {As : List Value} {ws : va_W} {st0 : List Value} (hx : p.tables.exec = Jvm.exec) (hb : c.code = cc) (hml : c.maxLocals = nL) (hown : s.vm.findClass own = some m.cls) (hg : ∀ w ∈ gT, w.before args s = true) (hT : cT s)
    (hM : Met l y (Cond.code y bytes maxL ret :: gT) rm (cP D tys ws H.size (.ref b :: As)) (va_Qi post (cB D wo (va_A ws H.size)) (va_A ws H.size)) rm.cells rm.slots (va_A ws H.size))
    (cw : va_CU R s args own C owner index x y bytes maxL ret (Cond.code y bytes maxL ret :: gT) rm rm.cells rm.slots n)
    (hK : va_K D vwCl tys s) (hP : va_P D vwCl ws H) (hD : va_D A ws) (hS : va_S A H0 H locs) (hA : ∀ q, H0.size ≤ q → A q) (hr : ∃ cell : Cell, H[b]? = some cell ∧ cell.vm.isStatics = false ∧ s.vm.findClass C = some cell.cls)
    (hn : As.length = n) (hz : ls.size = nL) (hst : st0 = As.reverse ++ .ref b :: rest) (hW : (rest.map fun v => v.category).sum ≤ 8) (hdg : decode cc pc = .ok (.invokevirtual index, 3)) (hf : cells + rm.cells ≤ R.cells ∧ slots + rm.slots ≤ R.slots)
    (kk : ∀ (r : Int32) (u : S) (H1 : Heap) (locs1 : List Loc), post r u → va_P D vwCl (wo u) H1 → va_D A (wo u) → va_S A H0 H1 locs1 → W p l e R s m args below meth c H1 locs1 (cells + rm.cells) (slots + rm.slots) Q (F0 m (pc + 3) ls (.int r :: rest))) :
    W p l e R s m args below meth c H locs cells slots Q (F0 m pc ls st0) :=
  cc_i (va_runU (As := As) (rest := rest) ⟨hx, hb, hml, hown, hg⟩ hM cw (cc_preV hP hK hD hT hr) rfl hn hz hst (lv_room hW) hdg hf) hS hD hA kk
/-- thing.isOf(sort), whatever the thing: nothing changes, 1 or 0 -/
theorem cI_isOf {dC : Nat → ClassId} {dI : Nat → Nat → Nat} {index : Nat} {s0 : Int32} (hx : p.tables.exec = Jvm.exec) (hb : c.code = cc) (hml : c.maxLocals = nL) (hown : s.vm.findClass own = some m.cls) (hg : ∀ w ∈ gT, w.before args s = true) (hT : cT s) (hlk : Cond.methodLink own index yIsOf ∈ gT)
    (hK : va_K (dC, dI) vwCl tys s) (hP : va_P (dC, dI) vwCl (X ++ va_pl P.1 (cpf ty P)) H) (hD : va_D A (X ++ va_pl P.1 (cpf ty P))) (hS : va_S A H0 H locs) (hA : ∀ q, H0.size ≤ q → A q) (ha : a ∈ P.1) (hk : P.2.1 a < 7)
    (hz : ls.size = nL) (hW : (rest.map fun v => v.category).sum ≤ 8) (hdg : decode cc pc = .ok (.invokevirtual index, 3)) (hR : 1 ≤ R.frames ∧ 21 ≤ R.locals) (hf : cells ≤ R.cells ∧ slots ≤ R.slots)
    (ky : ∀ (H1 : Heap) (locs1 : List Loc), kOf (P.2.1 a) (P.2.2.1 a) s0 = true → va_P (dC, dI) vwCl (X ++ va_pl P.1 (cpf ty P)) H1 → va_S A H0 H1 locs1 → W p l e R s m args below meth c H1 locs1 cells slots Q (F0 m (pc + 3) ls (.int 1 :: rest)))
    (kn : ∀ (H1 : Heap) (locs1 : List Loc), kOf (P.2.1 a) (P.2.2.1 a) s0 = false → va_P (dC, dI) vwCl (X ++ va_pl P.1 (cpf ty P)) H1 → va_S A H0 H1 locs1 → W p l e R s m args below meth c H1 locs1 cells slots Q (F0 m (pc + 3) ls (.int 0 :: rest))) :
    W p l e R s m args below meth c H locs cells slots Q (F0 m pc ls (.int s0 :: .ref a :: rest)) := by
  have hrc := cI_recv hK hP ha hk
  have hd1 := hT.2.2.2.2.1
  have hRR : ∀ n : Nat, n = 2 → (0 : Nat) + 1 ≤ R.frames ∧ 8 + (n + 11) + 0 ≤ R.locals := fun n hn => ⟨hR.1, by omega⟩
  obtain ⟨k, hke⟩ : ∃ k, P.2.1 a = k := ⟨_, rfl⟩
  rw [hke] at hk hrc
  refine k7 (P := fun k => P.2.1 a = k → (∃ cell : Cell, H[a]? = some cell ∧ cell.vm.isStatics = false ∧ s.vm.findClass (cNm k) = some cell.cls) → W p l e R s m args below meth c H locs cells slots Q (F0 m pc ls (.int s0 :: .ref a :: rest))) ?_ ?_ ?_ ?_ ?_ ?_ ?_ hk hke hrc
  · intro hke hrc
    refine cU_i (n := 1) (C := RX0) (owner := RX10) (x := yIsOf) hx hb hml hown hg hT (c_X3_isOf l dC dI tys _ H.size a s0) (cu_of hg hlk wZ_X10_isOf wL_X0_X3_isOf wN_X3_isOf wI_X3 wK_X3_isOf hd1 (by decide +kernel) (hRR 2 rfl)) hK hP hD hS hA hrc rfl hz rfl hW hdg hf (fun r u H1 locs1 hq hP1 _ hS1 => ?_)
    rcases hq with ⟨rfl, h⟩ | ⟨rfl, h1, h2, h3⟩
    · exact ky H1 locs1 (by rw [hke]; simp [kOf, h]) hP1 hS1
    · exact kn H1 locs1 (by rw [hke]; simp [kOf, h1, h2, h3]) hP1 hS1
  · intro hke hrc
    refine cU_i (n := 1) (C := RX3) (owner := RX10) (x := yIsOf) hx hb hml hown hg hT (c_X3_isOf l dC dI tys _ H.size a s0) (cu_of hg hlk wZ_X10_isOf wL_X3_X3_isOf wN_X3_isOf wI_X3 wK_X3_isOf hd1 (by decide +kernel) (hRR 2 rfl)) hK hP hD hS hA hrc rfl hz rfl hW hdg hf (fun r u H1 locs1 hq hP1 _ hS1 => ?_)
    rcases hq with ⟨rfl, h⟩ | ⟨rfl, h1, h2, h3⟩
    · exact ky H1 locs1 (by rw [hke]; simp [kOf, h]) hP1 hS1
    · exact kn H1 locs1 (by rw [hke]; simp [kOf, h1, h2, h3]) hP1 hS1
  · intro hke hrc
    refine cU_i (n := 1) (C := RX9) (owner := RX10) (x := yIsOf) hx hb hml hown hg hT (c_X9_isOf l dC dI tys _ H.size a s0) (cu_of hg hlk wZ_X10_isOf wL_X9_X9_isOf wN_X9_isOf wI_X9 wK_X9_isOf hd1 (by decide +kernel) (hRR 2 rfl)) hK hP hD hS hA hrc rfl hz rfl hW hdg hf (fun r u H1 locs1 hq hP1 _ hS1 => ?_)
    rcases hq with ⟨rfl, h⟩ | ⟨rfl, h⟩
    · exact ky H1 locs1 (by rw [hke]; simp [kOf, h]) hP1 hS1
    · exact kn H1 locs1 (by rw [hke]; simp [kOf, h]) hP1 hS1
  · intro hke hrc
    refine cU_i (n := 1) (C := RX4) (owner := RX10) (x := yIsOf) hx hb hml hown hg hT (c_X4_isOf l dC dI tys _ H.size a s0) (cu_of hg hlk wZ_X10_isOf wL_X4_X4_isOf wN_X4_isOf wI_X4 wK_X4_isOf hd1 (by decide +kernel) (hRR 2 rfl)) hK hP hD hS hA hrc rfl hz rfl hW hdg hf (fun r u H1 locs1 hq hP1 _ hS1 => ?_)
    rcases hq with ⟨rfl, h⟩ | ⟨rfl, h⟩
    · exact ky H1 locs1 (by rw [hke]; simp [kOf, h]) hP1 hS1
    · exact kn H1 locs1 (by rw [hke]; simp [kOf, h]) hP1 hS1
  · intro hke hrc
    refine cU_i (n := 1) (C := RX5) (owner := RX10) (x := yIsOf) hx hb hml hown hg hT (c_X5_isOf l dC dI tys _ H.size a s0) (cu_of hg hlk wZ_X10_isOf wL_X5_X5_isOf wN_X5_isOf wI_X5 wK_X5_isOf hd1 (by decide +kernel) (hRR 2 rfl)) hK hP hD hS hA hrc rfl hz rfl hW hdg hf (fun r u H1 locs1 hq hP1 _ hS1 => ?_)
    rcases hq with ⟨rfl, h⟩ | ⟨rfl, h⟩
    · exact ky H1 locs1 (by rw [hke]; simp [kOf, h]) hP1 hS1
    · exact kn H1 locs1 (by rw [hke]; simp [kOf, h]) hP1 hS1
  · intro hke hrc
    obtain ⟨j, hj⟩ := cg_k (X := X) (ty := ty) ha hke (by decide)
    have hj' : (X ++ va_pl P.1 (cpf ty P))[j]? = some (a, .inr (10, [.int (P.2.2.1 a), va_rf (P.2.2.2.2.1 a)])) := by rw [hj]; simp [cFs, hke, cCi]
    refine cU_i (n := 1) (C := RX7) (owner := RX10) (x := yIsOf) hx hb hml hown hg hT (c_X7_isOf l dC dI tys _ H.size a j (P.2.2.1 a) (va_rf (P.2.2.2.2.1 a)) s0 hj') (cu_of hg hlk wZ_X10_isOf wL_X7_X7_isOf wN_X7_isOf wI_X7 wK_X7_isOf hd1 (by decide +kernel) (hRR 2 rfl)) hK hP hD hS hA hrc rfl hz rfl hW hdg hf (fun r u H1 locs1 hq hP1 _ hS1 => ?_)
    rcases hq with ⟨rfl, h⟩ | ⟨rfl, h⟩
    · exact ky H1 locs1 (by rw [hke]; simp [kOf, h]) hP1 hS1
    · exact kn H1 locs1 (by rw [hke]; simp [kOf, h]) hP1 hS1
  · intro hke hrc
    obtain ⟨j, hj⟩ := cg_k (X := X) (ty := ty) ha hke (by decide)
    have hj' : (X ++ va_pl P.1 (cpf ty P))[j]? = some (a, .inr (11, [.int (P.2.2.1 a), .int (P.2.2.2.1 a), va_rf (P.2.2.2.2.1 a)])) := by rw [hj]; simp [cFs, hke, cCi]
    refine cU_i (n := 1) (C := RX8) (owner := RX10) (x := yIsOf) hx hb hml hown hg hT (c_X8_isOf l dC dI tys _ H.size a j (P.2.2.1 a) (P.2.2.2.1 a) (va_rf (P.2.2.2.2.1 a)) s0 hj') (cu_of hg hlk wZ_X10_isOf wL_X8_X8_isOf wN_X8_isOf wI_X8 wK_X8_isOf hd1 (by decide +kernel) (hRR 2 rfl)) hK hP hD hS hA hrc rfl hz rfl hW hdg hf (fun r u H1 locs1 hq hP1 _ hS1 => ?_)
    rcases hq with ⟨rfl, h⟩ | ⟨rfl, h1, h2⟩
    · exact ky H1 locs1 (by rw [hke]; simp [kOf, h]) hP1 hS1
    · exact kn H1 locs1 (by rw [hke]; simp only [kOf, Bool.or_eq_false_iff, Bool.and_eq_false_iff, beq_eq_false_iff_ne]; exact ⟨h1, Decidable.not_and_iff_not_or_not.mp h2⟩) hP1 hS1
end CPool

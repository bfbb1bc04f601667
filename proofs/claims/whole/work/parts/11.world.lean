/-! ===== the mill's world: eight fixed cells, and the pool of things ===== -/
/-- program, at, fuelLeft, done, caught, finals, letOut; starts, ends, turns, catches, depth -/
abbrev cZ : Type := (Nat → Int32) × Int32 × Int32 × Int32 × Int32 × Int32 × Int32 × (Nat → Int32) × (Nat → Int32) × (Nat → Int32) × (Nat → Int32) × Int32
/-- the pool: addresses; kinds; value (kind of a Row, own sort of a Shelf, sort of a Letter); rim (thing sort of a Shelf); next (cells of a Row, of a Shelf); lengths; longs; things -/
abbrev cQ : Type := List Nat × (Nat → Nat) × (Nat → Int32) × (Nat → Int32) × (Nat → Option Nat) × (Nat → Nat) × (Nat → Nat → Int64) × (Nat → Nat → Option Nat)
/-- what stands at an address of the pool, by its kind: 0 Ball, 1 Disc, 2 Stone, 3 Drum, 4 Letter, 5 Row, 6 Shelf, 7 longs, else things -/
def cpf (ty : Nat → ClassId) (P : cQ) : Nat → va_E := fun a =>
  if P.2.1 a = 0 then .inr (5, [.int (P.2.2.2.1 a), .int (P.2.2.1 a), va_rf (P.2.2.2.2.1 a)])
  else if P.2.1 a = 1 then .inr (7, [.int (P.2.2.1 a), va_rf (P.2.2.2.2.1 a), .int (P.2.2.2.1 a)])
  else if P.2.1 a = 2 then .inr (12, [.int (P.2.2.1 a), va_rf (P.2.2.2.2.1 a)])
  else if P.2.1 a = 3 then .inr (8, [.int (P.2.2.1 a)])
  else if P.2.1 a = 4 then .inr (9, [.int (P.2.2.1 a)])
  else if P.2.1 a = 5 then .inr (10, [.int (P.2.2.1 a), va_rf (P.2.2.2.2.1 a)])
  else if P.2.1 a = 6 then .inr (11, [.int (P.2.2.1 a), .int (P.2.2.2.1 a), va_rf (P.2.2.2.2.1 a)])
  else if P.2.1 a = 7 then .inl (ty 2, P.2.2.2.2.2.1 a, .inr (.inl (P.2.2.2.2.2.2.1 a)))
  else .inl (ty 1, P.2.2.2.2.2.1 a, .inr (.inr (.inr (.inr (P.2.2.2.2.2.2.2 a)))))
abbrev cTy (ty : Nat → ClassId) : List (ClassId × FieldType) := [(ty 0, .int), (ty 1, .object RX10), (ty 2, .long)]
abbrev cX (g : Nat → Nat) (ty : Nat → ClassId) (pl : Nat → Option Nat) (ac : Int64) (ft md : Int32) (Z : cZ) : va_W :=
  [(g 0, .inr (13, [.ref (g 1), .ref (g 2), .ref (g 3), .long ac, .int ft, .int Z.2.1, .int Z.2.2.1, .int Z.2.2.2.1, .int Z.2.2.2.2.1, .int Z.2.2.2.2.2.1, .int Z.2.2.2.2.2.2.1, .int md])),
   (g 1, .inl (ty 1, 32, .inr (.inr (.inr (.inr pl))))),
   (g 2, .inl (ty 0, 1024, .inl Z.1)),
   (g 3, .inr (6, [.ref (g 4), .ref (g 5), .ref (g 6), .ref (g 7), .int Z.2.2.2.2.2.2.2.2.2.2.2])),
   (g 4, .inl (ty 0, 200, .inl Z.2.2.2.2.2.2.2.1)),
   (g 5, .inl (ty 0, 200, .inl Z.2.2.2.2.2.2.2.2.1)),
   (g 6, .inl (ty 0, 200, .inl Z.2.2.2.2.2.2.2.2.2.1)),
   (g 7, .inl (ty 0, 200, .inl Z.2.2.2.2.2.2.2.2.2.2.1))]
abbrev cW (g : Nat → Nat) (ty : Nat → ClassId) (pl : Nat → Option Nat) (ac : Int64) (ft md : Int32) (Z : cZ) (P : cQ) : va_W := cX g ty pl ac ft md Z ++ va_pl P.1 (cpf ty P)
theorem ci_0 : (0 : Int32).toInt = 0 := by decide
theorem ci_1 : (1 : Int32).toInt = 1 := by decide
theorem ci_32 : (32 : Int32).toInt = 32 := by decide
theorem ci_200 : (200 : Int32).toInt = 200 := by decide
theorem ci_256 : (256 : Int32).toInt = 256 := by decide
theorem ci_6000 : (6000 : Int32).toInt = 6000 := by decide
theorem cin_of {x N : Int32} {n : Nat} (h0 : ¬ x < 0) (h1 : ¬ N ≤ x) (hN : N.toInt = n) : vp_in x n := by
  rw [vp_in_iff]
  rw [Int32.lt_iff_toInt_lt, ci_0] at h0
  rw [Int32.le_iff_toInt_le, hN] at h1
  omega
theorem cin_no {x N : Int32} {n : Nat} (h : x < 0 ∨ N ≤ x) (hN : N.toInt = n) : ¬ vp_in x n := by
  rw [vp_in_iff]
  rw [Int32.lt_iff_toInt_lt, ci_0, Int32.le_iff_toInt_le, hN] at h
  omega
section CCalls2
variable {p : Program} {l : Launch} {e : Env} {R : Room} {s : State} {m : MethodId} {args : Array Value} {below : List Frame} {meth : Method} {c : Code} {H : Heap} {locs : List Loc} {cells slots : Nat} {Q : State → Prop}
variable {pc nL : Nat} {ls : Array Slot} {rest st0 : List Value} {A : Nat → Prop} {H0 : Heap} {mc ms : Nat} {D : va_G} {tys : List (ClassId × FieldType)} {ws : va_W}
variable {y : MethodName} {bytes cc : ByteArray} {maxL n index b : Nat} {ret : Option FieldType} {rm : Room} {own C : String} {As : List Value} {S : Type} {wo : S → va_W}
/-- 'invokevirtual' of a method with a contract over the whole world, that answers an int -/
theorem cV_i {post : Int32 → S → Prop} (hx : p.tables.exec = Jvm.exec) (hb : c.code = cc) (hml : c.maxLocals = nL) (hown : s.vm.findClass own = some m.cls) (hg : ∀ w ∈ gT, w.before args s = true) (hT : cT s)
    (hM : Met l y (Cond.code y bytes maxL ret :: gT) rm (cP D tys ws H.size (.ref b :: As)) (va_Qi post (cB D wo (va_A ws H.size)) (va_A ws H.size)) rm.cells rm.slots (va_A ws H.size))
    (cw : CallW R s args own C index y bytes maxL ret (Cond.code y bytes maxL ret :: gT) rm rm.cells rm.slots n)
    (hK : va_K D vwCl tys s) (hP : va_P D vwCl ws H) (hD : va_D A ws) (hS : va_S A H0 H locs) (hA : ∀ q, H0.size ≤ q → A q) (hr : ∃ cell : Cell, H[b]? = some cell ∧ cell.vm.isStatics = false ∧ s.vm.findClass C = some cell.cls)
    (hn : As.length = n) (hz : ls.size = nL) (hst : st0 = As.reverse ++ .ref b :: rest) (hW : (rest.map fun v => v.category).sum ≤ 8) (hdg : decode cc pc = .ok (.invokevirtual index, 3)) (hf : cells + rm.cells ≤ R.cells ∧ slots + rm.slots ≤ R.slots)
    (kk : ∀ (r : Int32) (u : S) (H1 : Heap) (locs1 : List Loc), post r u → va_P D vwCl (wo u) H1 → va_D A (wo u) → va_S A H0 H1 locs1 → W p l e R s m args below meth c H1 locs1 (cells + rm.cells) (slots + rm.slots) Q (F0 m (pc + 3) ls (.int r :: rest))) :
    W p l e R s m args below meth c H locs cells slots Q (F0 m pc ls st0) :=
  cc_i (va_runV (As := As) (rest := rest) ⟨hx, hb, hml, hown, hg⟩ hM cw (cc_preV hP hK hD hT hr) rfl hn hz hst (lv_room hW) hdg hf) hS hD hA kk
theorem cV_l {post : Int64 → S → Prop} (hx : p.tables.exec = Jvm.exec) (hb : c.code = cc) (hml : c.maxLocals = nL) (hown : s.vm.findClass own = some m.cls) (hg : ∀ w ∈ gT, w.before args s = true) (hT : cT s)
    (hM : Met l y (Cond.code y bytes maxL ret :: gT) rm (cP D tys ws H.size (.ref b :: As)) (va_Ql post (cB D wo (va_A ws H.size)) (va_A ws H.size)) rm.cells rm.slots (va_A ws H.size))
    (cw : CallW R s args own C index y bytes maxL ret (Cond.code y bytes maxL ret :: gT) rm rm.cells rm.slots n)
    (hK : va_K D vwCl tys s) (hP : va_P D vwCl ws H) (hD : va_D A ws) (hS : va_S A H0 H locs) (hA : ∀ q, H0.size ≤ q → A q) (hr : ∃ cell : Cell, H[b]? = some cell ∧ cell.vm.isStatics = false ∧ s.vm.findClass C = some cell.cls)
    (hn : As.length = n) (hz : ls.size = nL) (hst : st0 = As.reverse ++ .ref b :: rest) (hW : (rest.map fun v => v.category).sum ≤ 8) (hdg : decode cc pc = .ok (.invokevirtual index, 3)) (hf : cells + rm.cells ≤ R.cells ∧ slots + rm.slots ≤ R.slots)
    (kk : ∀ (r : Int64) (u : S) (H1 : Heap) (locs1 : List Loc), post r u → va_P D vwCl (wo u) H1 → va_D A (wo u) → va_S A H0 H1 locs1 → W p l e R s m args below meth c H1 locs1 (cells + rm.cells) (slots + rm.slots) Q (F0 m (pc + 3) ls (.long r :: rest))) :
    W p l e R s m args below meth c H locs cells slots Q (F0 m pc ls st0) :=
  cc_l (va_runV (As := As) (rest := rest) ⟨hx, hb, hml, hown, hg⟩ hM cw (cc_preV hP hK hD hT hr) rfl hn hz hst (lv_room hW) hdg hf) hS hD hA kk
theorem cV_v {post : S → Prop} (hx : p.tables.exec = Jvm.exec) (hb : c.code = cc) (hml : c.maxLocals = nL) (hown : s.vm.findClass own = some m.cls) (hg : ∀ w ∈ gT, w.before args s = true) (hT : cT s)
    (hM : Met l y (Cond.code y bytes maxL ret :: gT) rm (cP D tys ws H.size (.ref b :: As)) (va_Qv post (cB D wo (va_A ws H.size)) (va_A ws H.size)) rm.cells rm.slots (va_A ws H.size))
    (cw : CallW R s args own C index y bytes maxL ret (Cond.code y bytes maxL ret :: gT) rm rm.cells rm.slots n)
    (hK : va_K D vwCl tys s) (hP : va_P D vwCl ws H) (hD : va_D A ws) (hS : va_S A H0 H locs) (hA : ∀ q, H0.size ≤ q → A q) (hr : ∃ cell : Cell, H[b]? = some cell ∧ cell.vm.isStatics = false ∧ s.vm.findClass C = some cell.cls)
    (hn : As.length = n) (hz : ls.size = nL) (hst : st0 = As.reverse ++ .ref b :: rest) (hW : (rest.map fun v => v.category).sum ≤ 8) (hdg : decode cc pc = .ok (.invokevirtual index, 3)) (hf : cells + rm.cells ≤ R.cells ∧ slots + rm.slots ≤ R.slots)
    (kk : ∀ (u : S) (H1 : Heap) (locs1 : List Loc), post u → va_P D vwCl (wo u) H1 → va_D A (wo u) → va_S A H0 H1 locs1 → W p l e R s m args below meth c H1 locs1 (cells + rm.cells) (slots + rm.slots) Q (F0 m (pc + 3) ls rest)) :
    W p l e R s m args below meth c H locs cells slots Q (F0 m pc ls st0) :=
  cc_v (va_runV (As := As) (rest := rest) ⟨hx, hb, hml, hown, hg⟩ hM cw (cc_preV hP hK hD hT hr) rfl hn hz hst (lv_room hW) hdg hf) hS hD hA kk
theorem cV_q {post : Option Nat → S → Prop} (hx : p.tables.exec = Jvm.exec) (hb : c.code = cc) (hml : c.maxLocals = nL) (hown : s.vm.findClass own = some m.cls) (hg : ∀ w ∈ gT, w.before args s = true) (hT : cT s)
    (hM : Met l y (Cond.code y bytes maxL ret :: gT) rm (cP D tys ws H.size (.ref b :: As)) (va_Qq post (cB D wo (va_A ws H.size)) (va_A ws H.size)) rm.cells rm.slots (va_A ws H.size))
    (cw : CallW R s args own C index y bytes maxL ret (Cond.code y bytes maxL ret :: gT) rm rm.cells rm.slots n)
    (hK : va_K D vwCl tys s) (hP : va_P D vwCl ws H) (hD : va_D A ws) (hS : va_S A H0 H locs) (hA : ∀ q, H0.size ≤ q → A q) (hr : ∃ cell : Cell, H[b]? = some cell ∧ cell.vm.isStatics = false ∧ s.vm.findClass C = some cell.cls)
    (hn : As.length = n) (hz : ls.size = nL) (hst : st0 = As.reverse ++ .ref b :: rest) (hW : (rest.map fun v => v.category).sum ≤ 8) (hdg : decode cc pc = .ok (.invokevirtual index, 3)) (hf : cells + rm.cells ≤ R.cells ∧ slots + rm.slots ≤ R.slots)
    (kk : ∀ (r : Option Nat) (u : S) (H1 : Heap) (locs1 : List Loc), post r u → va_P D vwCl (wo u) H1 → va_D A (wo u) → va_S A H0 H1 locs1 → W p l e R s m args below meth c H1 locs1 (cells + rm.cells) (slots + rm.slots) Q (F0 m (pc + 3) ls (va_rf r :: rest))) :
    W p l e R s m args below meth c H locs cells slots Q (F0 m pc ls st0) :=
  cc_q (va_runV (As := As) (rest := rest) ⟨hx, hb, hml, hown, hg⟩ hM cw (cc_preV hP hK hD hT hr) rfl hn hz hst (lv_room hW) hdg hf) hS hD hA kk
theorem cS_l {post : Int64 → S → Prop} (hx : p.tables.exec = Jvm.exec) (hb : c.code = cc) (hml : c.maxLocals = nL) (hown : s.vm.findClass own = some m.cls) (hg : ∀ w ∈ gT, w.before args s = true) (hT : cT s)
    (hM : Met l y (Cond.code y bytes maxL ret :: gT) rm (cP D tys ws H.size As) (va_Ql post (cB D wo (va_A ws H.size)) (va_A ws H.size)) rm.cells rm.slots (va_A ws H.size))
    (cw : CallB R s args own index y bytes maxL ret (Cond.code y bytes maxL ret :: gT) rm rm.cells rm.slots n) (hs : Cond.static y ∈ gT)
    (hK : va_K D vwCl tys s) (hP : va_P D vwCl ws H) (hD : va_D A ws) (hS : va_S A H0 H locs) (hA : ∀ q, H0.size ≤ q → A q)
    (hn : As.length = n) (hz : ls.size = nL) (hst : st0 = As.reverse ++ rest) (hW : (rest.map fun v => v.category).sum ≤ 8) (hdg : decode cc pc = .ok (.invokestatic index, 3)) (hf : cells + rm.cells ≤ R.cells ∧ slots + rm.slots ≤ R.slots)
    (kk : ∀ (r : Int64) (u : S) (H1 : Heap) (locs1 : List Loc), post r u → va_P D vwCl (wo u) H1 → va_D A (wo u) → va_S A H0 H1 locs1 → W p l e R s m args below meth c H1 locs1 (cells + rm.cells) (slots + rm.slots) Q (F0 m (pc + 3) ls (.long r :: rest))) :
    W p l e R s m args below meth c H locs cells slots Q (F0 m pc ls st0) :=
  cc_l (va_runS (As := As) (rest := rest) ⟨hx, hb, hml, hown, hg⟩ hM ⟨cw, hg _ hs⟩ (cc_preS hP hK hD hT) rfl hn hz hst (lv_room hW) hdg hf) hS hD hA kk
theorem cS_i {post : Int32 → S → Prop} (hx : p.tables.exec = Jvm.exec) (hb : c.code = cc) (hml : c.maxLocals = nL) (hown : s.vm.findClass own = some m.cls) (hg : ∀ w ∈ gT, w.before args s = true) (hT : cT s)
    (hM : Met l y (Cond.code y bytes maxL ret :: gT) rm (cP D tys ws H.size As) (va_Qi post (cB D wo (va_A ws H.size)) (va_A ws H.size)) rm.cells rm.slots (va_A ws H.size))
    (cw : CallB R s args own index y bytes maxL ret (Cond.code y bytes maxL ret :: gT) rm rm.cells rm.slots n) (hs : Cond.static y ∈ gT)
    (hK : va_K D vwCl tys s) (hP : va_P D vwCl ws H) (hD : va_D A ws) (hS : va_S A H0 H locs) (hA : ∀ q, H0.size ≤ q → A q)
    (hn : As.length = n) (hz : ls.size = nL) (hst : st0 = As.reverse ++ rest) (hW : (rest.map fun v => v.category).sum ≤ 8) (hdg : decode cc pc = .ok (.invokestatic index, 3)) (hf : cells + rm.cells ≤ R.cells ∧ slots + rm.slots ≤ R.slots)
    (kk : ∀ (r : Int32) (u : S) (H1 : Heap) (locs1 : List Loc), post r u → va_P D vwCl (wo u) H1 → va_D A (wo u) → va_S A H0 H1 locs1 → W p l e R s m args below meth c H1 locs1 (cells + rm.cells) (slots + rm.slots) Q (F0 m (pc + 3) ls (.int r :: rest))) :
    W p l e R s m args below meth c H locs cells slots Q (F0 m pc ls st0) :=
  cc_i (va_runS (As := As) (rest := rest) ⟨hx, hb, hml, hown, hg⟩ hM ⟨cw, hg _ hs⟩ (cc_preS hP hK hD hT) rfl hn hz hst (lv_room hW) hdg hf) hS hD hA kk
end CCalls2

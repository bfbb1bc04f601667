/-! ===== how much the heap has grown, as a contract tells it ===== -/
def hsum (H : Heap) : Nat := (H.toList.map (fun c => c.slots.size)).sum
theorem hsum_new {s s' : State} {locs : List Loc} {cells slots : Nat} (h : s.sameButNew s' locs cells slots) : hsum s'.heap = hsum s.heap + ((s'.heap.toList.drop s.heap.size).map (fun c => c.slots.size)).sum := by
  obtain ⟨-, h1, -, -, -, h6⟩ := h
  have e : (s'.heap.toList.take s.heap.size).map (fun c => c.slots.size) = s.heap.toList.map (fun c => c.slots.size) := by
    apply List.ext_getElem?
    intro i
    rw [List.getElem?_map, List.getElem?_map, List.getElem?_take]
    by_cases hi : i < s.heap.size
    · rw [if_pos hi]
      have e1 : s.heap[i]? = some s.heap[i] := Array.getElem?_eq_getElem hi
      obtain ⟨c', e2, -, e4, -⟩ := h6 i _ e1
      rw [Array.getElem?_toList, Array.getElem?_toList, e1, e2]
      simp only [Option.map_some, e4]
    · rw [if_neg hi, Array.getElem?_toList, Array.getElem?_eq_none (by omega)]
  unfold hsum
  rw [← e, ← List.sum_append_nat, ← List.map_append, List.take_append_drop]
section Grow
variable {p : Program} {l : Launch} {e : Env} {R : Room} {s : State} {m : MethodId} {args : Array Value} {below : List Frame} {meth : Method} {c : Code} {H : Heap} {locs : List Loc} {cells slots : Nat} {Q : State → Prop} {g : JFrame}
theorem W.bound (k : H.size ≤ s.heap.size + cells → hsum H ≤ hsum s.heap + slots → W p l e R s m args below meth c H locs cells slots Q g) : W p l e R s m args below meth c H locs cells slots Q g := by
  intro T hT X
  have h := X.same
  have e := hsum_new h
  have h3 : T.heap.size ≤ s.heap.size + cells := h.2.2.1
  have h5 := h.2.2.2.2.1
  have e : hsum T.heap = hsum s.heap + ((T.heap.toList.drop s.heap.size).map (fun c => c.slots.size)).sum := e
  have h5 : ((T.heap.toList.drop s.heap.size).map (fun c => c.slots.size)).sum ≤ slots := h5
  exact k (by rw [← hT]; exact h3) (by rw [← hT]; omega) T hT X
theorem W.tight {k n : Nat} (h1 : H.size ≤ s.heap.size + k) (h2 : hsum H ≤ hsum s.heap + n) (kk : W p l e R s m args below meth c H locs k n Q g) : W p l e R s m args below meth c H locs cells slots Q g := by
  intro T hT X
  have h := X.same
  have e := hsum_new h
  have e : hsum T.heap = hsum s.heap + ((T.heap.toList.drop s.heap.size).map (fun c => c.slots.size)).sum := e
  refine kk T hT { X with same := ⟨h.1, h.2.1, by rw [← hT] at h1; exact h1, h.2.2.2.1, ?_, h.2.2.2.2.2⟩ }
  show ((T.heap.toList.drop s.heap.size).map (fun c => c.slots.size)).sum ≤ n
  rw [← hT] at h2
  omega
theorem vx_W.bound {q9 : Addr} (k : H.size ≤ s.heap.size + cells → hsum H ≤ hsum s.heap + slots → vx_W p l e R s m args below meth c H locs cells slots Q g q9) : vx_W p l e R s m args below meth c H locs cells slots Q g q9 := by
  intro T hT X
  have h := X.same
  have e := hsum_new h
  have h3 : T.heap.size ≤ s.heap.size + cells := h.2.2.1
  have h5 := h.2.2.2.2.1
  have e : hsum T.heap = hsum s.heap + ((T.heap.toList.drop s.heap.size).map (fun c => c.slots.size)).sum := e
  have h5 : ((T.heap.toList.drop s.heap.size).map (fun c => c.slots.size)).sum ≤ slots := h5
  exact k (by rw [← hT]; exact h3) (by rw [← hT]; omega) T hT X
theorem vx_W.tight {q9 : Addr} {k n : Nat} (h1 : H.size ≤ s.heap.size + k) (h2 : hsum H ≤ hsum s.heap + n) (kk : vx_W p l e R s m args below meth c H locs k n Q g q9) : vx_W p l e R s m args below meth c H locs cells slots Q g q9 := by
  intro T hT X
  have h := X.same
  have e := hsum_new h
  have e : hsum T.heap = hsum s.heap + ((T.heap.toList.drop s.heap.size).map (fun c => c.slots.size)).sum := e
  refine kk T hT { X with same := ⟨h.1, h.2.1, by rw [← hT] at h1; exact h1, h.2.2.2.1, ?_, h.2.2.2.2.2⟩ }
  show ((T.heap.toList.drop s.heap.size).map (fun c => c.slots.size)).sum ≤ n
  rw [← hT] at h2
  omega
end Grow
/-- a contract's start that knows the heap's size and sum -/
def cPg (D : va_G) (tys : List (ClassId × FieldType)) (ws : va_W) (sz tot : Nat) (av : List Value) : Array Value → State → Prop :=
  fun a U => cP D tys ws sz av a U ∧ hsum U.heap = tot
def cPxg (D : va_G) (tys : List (ClassId × FieldType)) (ws : va_W) (sz tot : Nat) (av : List Value) : Array Value → State → Prop :=
  fun a U => cPx D tys ws sz av a U ∧ hsum U.heap = tot
theorem cPg_blind {D : va_G} {tys : List (ClassId × FieldType)} {ws : va_W} {sz tot : Nat} {av : List Value} : FrameBlind (cPg D tys ws sz tot av) := fun a U g mk q => ⟨cP_blind a U g mk q.1, q.2⟩
theorem cPxg_blind {D : va_G} {tys : List (ClassId × FieldType)} {ws : va_W} {sz tot : Nat} {av : List Value} : FrameBlind (cPxg D tys ws sz tot av) := fun a U g mk q => ⟨cPx_blind a U g mk q.1, q.2⟩
/-- behind it: the world, and how much the heap has grown at the most -/
def cBg {S : Type} (D : va_G) (wo : S → va_W) (A : Nat → Prop) (sz tot : Nat) (f g : S → Nat) (u : S) (t : State) : Prop := cB D wo A u t ∧ t.heap.size ≤ sz + f u ∧ hsum t.heap ≤ tot + g u
def cBXg {S : Type} (D : va_G) (ex : S → String) (wo : S → va_W) (A : Nat → Prop) (sz tot : Nat) (f g : S → Nat) : String → S → State → Prop := fun E u t => cBX D ex wo A E u t ∧ t.heap.size ≤ sz + f u ∧ hsum t.heap ≤ tot + g u
section GEntry
variable {l : Launch}
theorem cg_of {y : MethodName} {rm : Room} {D : va_G} {tys : List (ClassId × FieldType)} {ws : va_W} {sz tot mc ms maxL : Nat} {av : List Value} {cc : ByteArray} {ret : Option FieldType}
    {Qa : (Nat → Prop) → Array Value → State → Outcome → State → Prop} (hy : plainName y.cls = true) (hn : (lg_sl av).length ≤ maxL)
    (body : ∀ (p : Program) (e : Env) (s : State) (m : MethodId) (below : List Frame) (meth : Method) (c : Code) (A : Nat → Prop), p.tables.exec = Jvm.exec → c.code = cc → meth.sig.returnType = ret → c.maxLocals = maxL →
      s.vm.findClass y.cls = some m.cls → (∀ w ∈ gT, w.before av.toArray s = true) → meth.locks = false → meth.name = y.name → va_P D vwCl ws s.heap → va_K D vwCl tys s → va_D A ws → cT s → va_S A s.heap s.heap [] → (∀ q, s.heap.size ≤ q → A q) → s.heap.size = sz → hsum s.heap = tot →
      ∀ ls : Array Slot, lv_has ls maxL (lv_args 0 av) → W p l e rm s m av.toArray below meth c s.heap [] 0 0 (MQ below (Qa A) av.toArray s mc ms A) (F0 m 0 ls [])) :
    Met l y (Cond.code y cc maxL ret :: gT) rm (cPg D tys ws sz tot av) (Qa (va_A ws sz)) mc ms (va_A ws sz) := by
  refine Met.ofW (cc := cc) (maxL := maxL) (ret := ret) hy rfl ?_
  intro p e s m args below meth c s₁ B hml hv
  obtain ⟨⟨rfl, hsz, hP, hK, hD0, hT⟩, htot⟩ := hv
  subst hsz
  rw [lg_entry_eq]
  exact body p e s m below meth c _ B.exec B.bytes B.returns hml (findClass_of_methodNamed B.named) (fun w h => atoms_spec (ws := Cond.code y cc maxL ret :: gT) B.pre w (List.mem_cons_of_mem _ h)) B.notSynchronized (name_of_methodNamed B.named B.method).1 hP hK (hD0.self (sz := s.heap.size)) hT va_S.rf (fun q h => Or.inr h) rfl htot _ (lv_entry av hn)
theorem cxg_of {y : MethodName} {rm : Room} {D : va_G} {tys : List (ClassId × FieldType)} {ws : va_W} {sz tot mc ms maxL : Nat} {av : List Value} {cc : ByteArray} {ret : Option FieldType}
    {Qa : (Nat → Prop) → Array Value → State → Outcome → State → Prop} {Xa : (Nat → Prop) → String → State → State → Prop} (hy : plainName y.cls = true) (hn : (lg_sl av).length ≤ maxL)
    (body : ∀ (p : Program) (e : Env) (s : State) (m : MethodId) (below : List Frame) (meth : Method) (c : Code) (A : Nat → Prop), p.tables.exec = Jvm.exec → c.code = cc → meth.sig.returnType = ret → c.maxLocals = maxL → (∀ x ∈ c.exceptionTable.toList, False) →
      s.vm.findClass y.cls = some m.cls → (∀ w ∈ gT, w.before av.toArray s = true) → meth.locks = false → meth.name = y.name → va_P D vwCl ws s.heap → va_K D vwCl tys s → va_D A ws → cT s → cTx s → cZx A s s.heap → va_S A s.heap s.heap [] → (∀ q, s.heap.size ≤ q → A q) → s.heap.size = sz → hsum s.heap = tot →
      ∀ ls : Array Slot, lv_has ls maxL (lv_args 0 av) → W p l e rm s m av.toArray below meth c s.heap [] 0 0 (vx_MQ below (Qa A) (Xa A) av.toArray s mc ms A) (F0 m 0 ls [])) :
    vx_Met l y (Cond.code y cc maxL ret :: gT) rm (cPxg D tys ws sz tot av) (Qa (va_A ws sz)) (Xa (va_A ws sz)) mc ms (va_A ws sz) := by
  refine vx_ofW (cc := cc) (maxL := maxL) (ret := ret) hy rfl ?_
  intro p e s m args below meth c s₁ B hml ht hv
  obtain ⟨⟨rfl, hsz, hP, hK, hD0, hT, hTx, hZ⟩, htot⟩ := hv
  subst hsz
  rw [lg_entry_eq]
  exact body p e s m below meth c _ B.exec B.bytes B.returns hml ht (findClass_of_methodNamed B.named) (fun w h => atoms_spec (ws := Cond.code y cc maxL ret :: gT) B.pre w (List.mem_cons_of_mem _ h)) B.notSynchronized (name_of_methodNamed B.named B.method).1 hP hK (hD0.self (sz := s.heap.size)) hT hTx hZ va_S.rf (fun q h => Or.inr h) rfl htot _ (lv_entry av hn)
end GEntry
section GCalls
variable {p : Program} {l : Launch} {e : Env} {R : Room} {s : State} {m : MethodId} {args : Array Value} {below : List Frame} {meth : Method} {c : Code} {H : Heap} {locs : List Loc} {cells slots : Nat} {Q : State → Prop}
variable {pc nL : Nat} {ls : Array Slot} {rest st0 : List Value} {A : Nat → Prop} {mc ms sz tot : Nat} {D : va_G} {tys : List (ClassId × FieldType)} {ws : va_W}
variable {y : MethodName} {bytes cc : ByteArray} {maxL n index b : Nat} {ret : Option FieldType} {rm : Room} {own C : String} {As : List Value} {S SX : Type} {wo : S → va_W} {wx : SX → va_W} {ex : SX → String} {px : SX → Prop} {f g : S → Nat} {fx gx : SX → Nat}
theorem cg_preV (hP : va_P D vwCl ws H) (hK : va_K D vwCl tys s) (hD : va_D A ws) (hT : cT s) {C : String} {b : Nat} {As : List Value} (hr : ∃ cell : Cell, H[b]? = some cell ∧ cell.vm.isStatics = false ∧ s.vm.findClass C = some cell.cls) : PreV s H C b (cPg D tys ws H.size (hsum H) (.ref b :: As)) As :=
  ⟨cPg_blind, hr, fun U hU hW => ⟨(cc_preV hP hK hD hT hr).2.2 U hU hW, by rw [hU]⟩⟩
theorem gV_i {post : Int32 → S → Prop} (hx : p.tables.exec = Jvm.exec) (hb : c.code = cc) (hml : c.maxLocals = nL) (hown : s.vm.findClass own = some m.cls) (hg : ∀ w ∈ gT, w.before args s = true) (hT : cT s)
    (hM : Met l y (Cond.code y bytes maxL ret :: gT) rm (cPg D tys ws H.size (hsum H) (.ref b :: As)) (va_Qi post (cBg D wo (va_A ws H.size) H.size (hsum H) f g) (va_A ws H.size)) rm.cells rm.slots (va_A ws H.size))
    (cw : CallW R s args own C index y bytes maxL ret (Cond.code y bytes maxL ret :: gT) rm rm.cells rm.slots n)
    (hK : va_K D vwCl tys s) (hP : va_P D vwCl ws H) (hD : va_D A ws) (hS : va_S A s.heap H locs) (hA : ∀ q, s.heap.size ≤ q → A q) (hr : ∃ cell : Cell, H[b]? = some cell ∧ cell.vm.isStatics = false ∧ s.vm.findClass C = some cell.cls)
    (hn : As.length = n) (hz : ls.size = nL) (hst : st0 = As.reverse ++ .ref b :: rest) (hW : (rest.map fun v => v.category).sum ≤ 8) (hdg : decode cc pc = .ok (.invokevirtual index, 3)) (hf : cells + rm.cells ≤ R.cells ∧ slots + rm.slots ≤ R.slots)
    (kk : ∀ (r : Int32) (u : S) (H1 : Heap) (locs1 : List Loc), post r u → va_P D vwCl (wo u) H1 → va_D A (wo u) → va_S A s.heap H1 locs1 → W p l e R s m args below meth c H1 locs1 (cells + f u) (slots + g u) Q (F0 m (pc + 3) ls (.int r :: rest))) :
    W p l e R s m args below meth c H locs cells slots Q (F0 m pc ls st0) := by
  have hF := cc_free hD hS hA
  refine W.bound (fun b1 b2 => ?_)
  refine va_calli (va_runV (As := As) (rest := rest) ⟨hx, hb, hml, hown, hg⟩ hM cw (cg_preV hP hK hD hT hr) rfl hn hz hst (lv_room hW) hdg hf) hS (fun q _ h => hF q h) hF (fun r u t H1 locs1 ht _ hp hB _ _ hS1 => ?_)
  obtain ⟨hB1, h1, h2⟩ := hB
  rw [ht] at h1 h2
  exact W.tight (k := cells + f u) (n := slots + g u) (by omega) (by omega) (kk r u H1 locs1 hp (ht ▸ hB1.1) (hB1.2.weaken fun _ q _ h => hF q.1 h) hS1)
theorem gV_l {post : Int64 → S → Prop} (hx : p.tables.exec = Jvm.exec) (hb : c.code = cc) (hml : c.maxLocals = nL) (hown : s.vm.findClass own = some m.cls) (hg : ∀ w ∈ gT, w.before args s = true) (hT : cT s)
    (hM : Met l y (Cond.code y bytes maxL ret :: gT) rm (cPg D tys ws H.size (hsum H) (.ref b :: As)) (va_Ql post (cBg D wo (va_A ws H.size) H.size (hsum H) f g) (va_A ws H.size)) rm.cells rm.slots (va_A ws H.size))
    (cw : CallW R s args own C index y bytes maxL ret (Cond.code y bytes maxL ret :: gT) rm rm.cells rm.slots n)
    (hK : va_K D vwCl tys s) (hP : va_P D vwCl ws H) (hD : va_D A ws) (hS : va_S A s.heap H locs) (hA : ∀ q, s.heap.size ≤ q → A q) (hr : ∃ cell : Cell, H[b]? = some cell ∧ cell.vm.isStatics = false ∧ s.vm.findClass C = some cell.cls)
    (hn : As.length = n) (hz : ls.size = nL) (hst : st0 = As.reverse ++ .ref b :: rest) (hW : (rest.map fun v => v.category).sum ≤ 8) (hdg : decode cc pc = .ok (.invokevirtual index, 3)) (hf : cells + rm.cells ≤ R.cells ∧ slots + rm.slots ≤ R.slots)
    (kk : ∀ (r : Int64) (u : S) (H1 : Heap) (locs1 : List Loc), post r u → va_P D vwCl (wo u) H1 → va_D A (wo u) → va_S A s.heap H1 locs1 → W p l e R s m args below meth c H1 locs1 (cells + f u) (slots + g u) Q (F0 m (pc + 3) ls (.long r :: rest))) :
    W p l e R s m args below meth c H locs cells slots Q (F0 m pc ls st0) := by
  have hF := cc_free hD hS hA
  refine W.bound (fun b1 b2 => ?_)
  refine va_calll (va_runV (As := As) (rest := rest) ⟨hx, hb, hml, hown, hg⟩ hM cw (cg_preV hP hK hD hT hr) rfl hn hz hst (lv_room hW) hdg hf) hS (fun q _ h => hF q h) hF (fun r u t H1 locs1 ht _ hp hB _ _ hS1 => ?_)
  obtain ⟨hB1, h1, h2⟩ := hB
  rw [ht] at h1 h2
  exact W.tight (k := cells + f u) (n := slots + g u) (by omega) (by omega) (kk r u H1 locs1 hp (ht ▸ hB1.1) (hB1.2.weaken fun _ q _ h => hF q.1 h) hS1)
theorem gV_v {post : S → Prop} (hx : p.tables.exec = Jvm.exec) (hb : c.code = cc) (hml : c.maxLocals = nL) (hown : s.vm.findClass own = some m.cls) (hg : ∀ w ∈ gT, w.before args s = true) (hT : cT s)
    (hM : Met l y (Cond.code y bytes maxL ret :: gT) rm (cPg D tys ws H.size (hsum H) (.ref b :: As)) (va_Qv post (cBg D wo (va_A ws H.size) H.size (hsum H) f g) (va_A ws H.size)) rm.cells rm.slots (va_A ws H.size))
    (cw : CallW R s args own C index y bytes maxL ret (Cond.code y bytes maxL ret :: gT) rm rm.cells rm.slots n)
    (hK : va_K D vwCl tys s) (hP : va_P D vwCl ws H) (hD : va_D A ws) (hS : va_S A s.heap H locs) (hA : ∀ q, s.heap.size ≤ q → A q) (hr : ∃ cell : Cell, H[b]? = some cell ∧ cell.vm.isStatics = false ∧ s.vm.findClass C = some cell.cls)
    (hn : As.length = n) (hz : ls.size = nL) (hst : st0 = As.reverse ++ .ref b :: rest) (hW : (rest.map fun v => v.category).sum ≤ 8) (hdg : decode cc pc = .ok (.invokevirtual index, 3)) (hf : cells + rm.cells ≤ R.cells ∧ slots + rm.slots ≤ R.slots)
    (kk : ∀ (u : S) (H1 : Heap) (locs1 : List Loc), post u → va_P D vwCl (wo u) H1 → va_D A (wo u) → va_S A s.heap H1 locs1 → W p l e R s m args below meth c H1 locs1 (cells + f u) (slots + g u) Q (F0 m (pc + 3) ls rest)) :
    W p l e R s m args below meth c H locs cells slots Q (F0 m pc ls st0) := by
  have hF := cc_free hD hS hA
  refine W.bound (fun b1 b2 => ?_)
  refine va_callv (va_runV (As := As) (rest := rest) ⟨hx, hb, hml, hown, hg⟩ hM cw (cg_preV hP hK hD hT hr) rfl hn hz hst (lv_room hW) hdg hf) hS (fun q _ h => hF q h) hF (fun u t H1 locs1 ht _ hp hB _ _ hS1 => ?_)
  obtain ⟨hB1, h1, h2⟩ := hB
  rw [ht] at h1 h2
  exact W.tight (k := cells + f u) (n := slots + g u) (by omega) (by omega) (kk u H1 locs1 hp (ht ▸ hB1.1) (hB1.2.weaken fun _ q _ h => hF q.1 h) hS1)
/-! the ends of a method that tells how much it made -/
theorem gr_i {post : Int32 → S → Prop} {cc : ByteArray} {v : Int32} (u : S) (hx : p.tables.exec = Jvm.exec) (hb : c.code = cc) (hr : meth.sig.returnType = some .int) (hlocks : meth.locks = false)
    (hS : va_S A s.heap H locs) (hP : va_P D vwCl (wo u) H) (hD : va_D A (wo u)) (h1 : H.size ≤ sz + f u) (h2 : hsum H ≤ tot + g u) (hp : post v u) (hd : decode cc pc = .ok (.ireturn, 1)) :
    W p l e R s m args below meth c H locs cells slots (MQ below (va_Qi post (cBg D wo A sz tot f g) A) args s cells slots A) (F0 m pc ls [.int v]) :=
  W.iret hx hb hr (fun t ht _ => ⟨⟨v, u, rfl, hp, ⟨by rw [ht]; exact hP, hD⟩, by rw [ht]; exact h1, by rw [ht]; exact h2⟩, hS.F ht⟩) hS.2.2 hd hlocks
theorem gr_l {post : Int64 → S → Prop} {cc : ByteArray} {v : Int64} (u : S) (hx : p.tables.exec = Jvm.exec) (hb : c.code = cc) (hr : meth.sig.returnType = some .long) (hlocks : meth.locks = false)
    (hS : va_S A s.heap H locs) (hP : va_P D vwCl (wo u) H) (hD : va_D A (wo u)) (h1 : H.size ≤ sz + f u) (h2 : hsum H ≤ tot + g u) (hp : post v u) (hd : decode cc pc = .ok (.lreturn, 1)) :
    W p l e R s m args below meth c H locs cells slots (MQ below (va_Ql post (cBg D wo A sz tot f g) A) args s cells slots A) (F0 m pc ls [.long v]) :=
  W.lret hx hb hr (fun t ht _ => ⟨⟨v, u, rfl, hp, ⟨by rw [ht]; exact hP, hD⟩, by rw [ht]; exact h1, by rw [ht]; exact h2⟩, hS.F ht⟩) hS.2.2 hd hlocks
theorem gr_v {post : S → Prop} {cc : ByteArray} (u : S) (hx : p.tables.exec = Jvm.exec) (hb : c.code = cc) (hr : meth.sig.returnType = none) (hlocks : meth.locks = false)
    (hS : va_S A s.heap H locs) (hP : va_P D vwCl (wo u) H) (hD : va_D A (wo u)) (h1 : H.size ≤ sz + f u) (h2 : hsum H ≤ tot + g u) (hp : post u) (hd : decode cc pc = .ok (.return_, 1)) :
    W p l e R s m args below meth c H locs cells slots (MQ below (va_Qv post (cBg D wo A sz tot f g) A) args s cells slots A) (F0 m pc ls []) :=
  W.vret hx hb hr (fun t ht _ => ⟨⟨u, rfl, hp, ⟨by rw [ht]; exact hP, hD⟩, by rw [ht]; exact h1, by rw [ht]; exact h2⟩, hS.F ht⟩) hS.2.2 hd hlocks
/-- what came out of a callee goes on to the caller -/
theorem gx_out {Qc : Array Value → State → Outcome → State → Prop} {ce : Cell} {q9 : Addr} {H1 : Heap} {locs1 : List Loc} (u : SX) (hout : ∀ x ∈ c.exceptionTable.toList, False) (hlk : meth.locks = false) (hc : H1[q9]? = some ce) (hv : ce.vm = .none) (hcl : s.vm.findClass (ex u) = some ce.cls)
    (hp : px u) (hP : va_P D vwCl (wx u) H1) (hD : va_D A (wx u)) (hS : va_S A s.heap H1 locs1) (g1 : H1.size ≤ sz + fx u) (g2 : hsum H1 ≤ tot + gx u) (h1 : cells ≤ mc) (h2 : slots ≤ ms) :
    vx_W p l e R s m args below meth c H1 locs1 cells slots (vx_MQ below Qc (vx_X px (cBXg D ex wx A sz tot fx gx) A) args s mc ms A) (F0 m pc ls rest) q9 :=
  vx_out (fun x hx => absurd (hout x hx) id) hlk hc hv hcl (fun t ht _ => ⟨u, hp, ⟨⟨rfl, by rw [ht]; exact hP, hD⟩, by rw [ht]; exact g1, by rw [ht]; exact g2⟩, hS.F ht⟩) hS.2.2 h1 h2
end GCalls

/-! ===== contracts over one whole world: starts, ends, calls ===== -/
/-- the names of the things' kinds: 0 Ball, 1 Disc, 2 Stone, 3 Drum, 4 Letter, 5 Row, else Shelf -/
def cNm (k : Nat) : String := match k with
  | 0 => RX0 | 1 => RX3 | 2 => RX9 | 3 => RX4 | 4 => RX5 | 5 => RX7 | _ => RX8
/-- what is asked of a thing: 0 Row, 1 Shelf, 2 Box, 3 Rolling, 4 Disc, 5 Letter, else Thing -/
def cTg (t : Nat) : String := match t with
  | 0 => RX7 | 1 => RX8 | 2 => RX2 | 3 => RX6 | 4 => RX3 | 5 => RX5 | _ => RX10
def cIs (k t : Nat) : Bool := match t with
  | 0 => k == 5 | 1 => k == 6 | 2 => decide (k ≤ 2) | 3 => k == 0 || k == 1 || k == 3 | 4 => decide (k ≤ 1) | 5 => k == 4 | _ => true
def cNF (k : Nat) : Cond := match k with
  | 0 => .fieldLinkNest RX11 133 RX1 "depth" "I" RX11
  | 1 => .fieldLinkNest RX11 348 RX7 "kind" "I" RX11
  | 2 => .fieldLinkNest RX11 280 RX7 "cells" "[J" RX11
  | 3 => .fieldLinkNest RX11 295 RX8 "cells" "[LFaultMill$Thing;" RX11
  | _ => .fieldLinkNest RX11 345 RX5 "sort" "I" RX11
def cNM (k : Nat) : Cond := match k with
  | 0 => .methodLinkNest RX7 3 yX10_init RX11
  | 1 => .methodLinkNest RX8 3 yX10_init RX11
  | 2 => .methodLinkNest RX2 1 yX10_init RX11
  | 3 => .methodLinkNest RX4 3 yX10_init RX11
  | _ => .methodLinkNest RX5 3 yX10_init RX11
abbrev yIsOf : MethodName := ⟨RX10, "isOf", "(I)Z"⟩
abbrev yWeight : MethodName := ⟨RX2, "weight", "(I)I"⟩
abbrev yRolled : MethodName := ⟨RX6, "rolled", "(I)I"⟩
/-- what the tables say beside the words that every method carries: links to nest mates, casts, the interface -/
def cT (U : State) : Prop :=
  (∀ k, k < 5 → va_Nw (cNF k) U) ∧ (∀ k, k < 5 → va_Nw (cNM k) U) ∧
  (∀ k t, k < 7 → t < 7 → (cIs k t = true → va_Nw (.castable (cNm k) (cTg t)) U) ∧ (cIs k t = false → va_Nc (cNm k) (cTg t) U)) ∧
  va_AO RX10 U ∧ va_Nw (.declares yIsOf) U ∧ va_Nw (.declares yWeight) U ∧
  va_Fw RX0 yRolled yX0_rolled U ∧ va_Fw RX3 yRolled yX3_rolled U ∧ va_Fw RX4 yRolled yX4_rolled U
theorem cT_vm {u U : State} (hv : u.vm = U.vm) (h : cT u) : cT U := by
  obtain ⟨h1, h2, h3, h4, h5, h6, h7, h8, h9⟩ := h
  refine ⟨fun k hk => ?_, fun k hk => ?_, fun k t hk ht => ⟨fun hi => va_tabs rfl hv ((h3 k t hk ht).1 hi), fun hi => ?_⟩, ?_, va_tabs rfl hv h5, va_tabs rfl hv h6, ?_, ?_, ?_⟩
  · match k, hk with
    | 0, _ => exact va_tabs rfl hv (h1 0 (by omega))
    | 1, _ => exact va_tabs rfl hv (h1 1 (by omega))
    | 2, _ => exact va_tabs rfl hv (h1 2 (by omega))
    | 3, _ => exact va_tabs rfl hv (h1 3 (by omega))
    | 4, _ => exact va_tabs rfl hv (h1 4 (by omega))
  · match k, hk with
    | 0, _ => exact va_tabs rfl hv (h2 0 (by omega))
    | 1, _ => exact va_tabs rfl hv (h2 1 (by omega))
    | 2, _ => exact va_tabs rfl hv (h2 2 (by omega))
    | 3, _ => exact va_tabs rfl hv (h2 3 (by omega))
    | 4, _ => exact va_tabs rfl hv (h2 4 (by omega))
  · exact va_Nc.moved (hv ▸ Vm.Alike.refl u.vm) ((h3 k t hk ht).2 hi)
  · exact va_AO.moved (hv ▸ Vm.Alike.refl u.vm) h4
  · exact va_Fw.moved ⟨by decide, by decide⟩ (hv ▸ Vm.Alike.refl u.vm) h7
  · exact va_Fw.moved ⟨by decide, by decide⟩ (hv ▸ Vm.Alike.refl u.vm) h8
  · exact va_Fw.moved ⟨by decide, by decide⟩ (hv ▸ Vm.Alike.refl u.vm) h9
theorem cT_warm {u U : State} (hW : u.WarmedH U.vm) (h : cT u) : cT U := by
  obtain ⟨h1, h2, h3, h4, h5, h6, h7, h8, h9⟩ := h
  refine ⟨fun k hk => ?_, fun k hk => ?_, fun k t hk ht => ⟨fun hi => va_Nw.warmC hW ((h3 k t hk ht).1 hi), fun hi => ?_⟩, ?_, va_Nw.warmD hW h5, va_Nw.warmD hW h6, ?_, ?_, ?_⟩
  · match k, hk with
    | 0, _ => exact va_Nw.warmF hW (h1 0 (by omega))
    | 1, _ => exact va_Nw.warmF hW (h1 1 (by omega))
    | 2, _ => exact va_Nw.warmF hW (h1 2 (by omega))
    | 3, _ => exact va_Nw.warmF hW (h1 3 (by omega))
    | 4, _ => exact va_Nw.warmF hW (h1 4 (by omega))
  · match k, hk with
    | 0, _ => exact va_Nw.warmM hW (h2 0 (by omega))
    | 1, _ => exact va_Nw.warmM hW (h2 1 (by omega))
    | 2, _ => exact va_Nw.warmM hW (h2 2 (by omega))
    | 3, _ => exact va_Nw.warmM hW (h2 3 (by omega))
    | 4, _ => exact va_Nw.warmM hW (h2 4 (by omega))
  · exact va_Nc.moved hW.alike ((h3 k t hk ht).2 hi)
  · exact va_AO.moved hW.alike h4
  · exact va_Fw.moved ⟨by decide, by decide⟩ hW.alike h7
  · exact va_Fw.moved ⟨by decide, by decide⟩ hW.alike h8
  · exact va_Fw.moved ⟨by decide, by decide⟩ hW.alike h9
/-- a contract's start: the world ws in a heap of sz cells, the tables -/
def cP (D : va_G) (tys : List (ClassId × FieldType)) (ws : va_W) (sz : Nat) (av : List Value) : Array Value → State → Prop :=
  va_Pc av (fun U => U.heap.size = sz ∧ va_P D vwCl ws U.heap ∧ va_K D vwCl tys U ∧ va_D (fun _ => True) ws ∧ cT U)
/-- behind it: the world that u tells -/
def cB {S : Type} (D : va_G) (wo : S → va_W) (A : Nat → Prop) (u : S) (t : State) : Prop := va_P D vwCl (wo u) t.heap ∧ va_D A (wo u)
theorem cP_blind {D : va_G} {tys : List (ClassId × FieldType)} {ws : va_W} {sz : Nat} {av : List Value} : FrameBlind (cP D tys ws sz av) := by
  intro a U g mk q
  obtain ⟨q0, q1, q2, q3, q4, q5⟩ := q
  exact ⟨q0, q1, q2, va_K.moved (u := U) (U := U.calling g mk a) (Vm.Alike.refl U.vm) q3, q4, cT_vm (u := U) (U := U.calling g mk a) rfl q5⟩
section CEntry
variable {l : Launch}
/-- a contract out of the walk of the method's body -/
theorem cc_of {y : MethodName} {rm : Room} {D : va_G} {tys : List (ClassId × FieldType)} {ws : va_W} {sz mc ms maxL : Nat} {av : List Value} {cc : ByteArray} {ret : Option FieldType}
    {Qa : (Nat → Prop) → Array Value → State → Outcome → State → Prop} (hy : plainName y.cls = true) (hn : (lg_sl av).length ≤ maxL)
    (body : ∀ (p : Program) (e : Env) (s : State) (m : MethodId) (below : List Frame) (meth : Method) (c : Code) (A : Nat → Prop), p.tables.exec = Jvm.exec → c.code = cc → meth.sig.returnType = ret → c.maxLocals = maxL →
      s.vm.findClass y.cls = some m.cls → (∀ w ∈ gT, w.before av.toArray s = true) → meth.locks = false → meth.name = y.name → va_P D vwCl ws s.heap → va_K D vwCl tys s → va_D A ws → cT s → va_S A s.heap s.heap [] → (∀ q, s.heap.size ≤ q → A q) → s.heap.size = sz →
      ∀ ls : Array Slot, lv_has ls maxL (lv_args 0 av) → W p l e rm s m av.toArray below meth c s.heap [] 0 0 (MQ below (Qa A) av.toArray s mc ms A) (F0 m 0 ls [])) :
    Met l y (Cond.code y cc maxL ret :: gT) rm (cP D tys ws sz av) (Qa (va_A ws sz)) mc ms (va_A ws sz) := by
  refine Met.ofW (cc := cc) (maxL := maxL) (ret := ret) hy rfl ?_
  intro p e s m args below meth c s₁ B hml hv
  obtain ⟨rfl, hsz, hP, hK, hD0, hT⟩ := hv
  subst hsz
  rw [lg_entry_eq]
  exact body p e s m below meth c _ B.exec B.bytes B.returns hml (findClass_of_methodNamed B.named) (fun w h => atoms_spec (ws := Cond.code y cc maxL ret :: gT) B.pre w (List.mem_cons_of_mem _ h)) B.notSynchronized (name_of_methodNamed B.named B.method).1 hP hK (hD0.self (sz := s.heap.size)) hT va_S.rf (fun q h => Or.inr h) rfl _ (lv_entry av hn)
end CEntry
section CCalls
variable {p : Program} {l : Launch} {e : Env} {R : Room} {s : State} {m : MethodId} {args : Array Value} {below : List Frame} {meth : Method} {c : Code} {H : Heap} {locs : List Loc} {cells slots : Nat} {Q : State → Prop}
variable {pc : Nat} {ls : Array Slot} {rest st0 : List Value} {a : Array Value} {A : Nat → Prop} {H0 : Heap} {mc ms : Nat} {D : va_G} {tys : List (ClassId × FieldType)} {ws : va_W}
theorem cc_free (hD : va_D A ws) (hS : va_S A H0 H locs) (hA : ∀ q, H0.size ≤ q → A q) : ∀ q, va_A ws H.size q → A q := by
  intro q h
  rcases h with ⟨k, e1, h⟩ | h
  · exact hD.2 k (q, e1) h
  · exact hA q (Nat.le_trans hS.1 h)
theorem cc_preS (hP : va_P D vwCl ws H) (hK : va_K D vwCl tys s) (hD : va_D A ws) (hT : cT s) {As : List Value} : PreS s H (cP D tys ws H.size As) As :=
  ⟨cP_blind, fun U hU hW => ⟨rfl, by rw [hU], by rw [hU]; exact hP, va_K.moved hW.alike hK, hD.weaken (fun _ _ _ _ => trivial), cT_warm hW hT⟩⟩
theorem cc_preV (hP : va_P D vwCl ws H) (hK : va_K D vwCl tys s) (hD : va_D A ws) (hT : cT s) {C : String} {b : Nat} {As : List Value} (hr : ∃ cell : Cell, H[b]? = some cell ∧ cell.vm.isStatics = false ∧ s.vm.findClass C = some cell.cls) : PreV s H C b (cP D tys ws H.size (.ref b :: As)) As :=
  ⟨cP_blind, hr, fun U hU hW => ⟨rfl, by rw [hU], by rw [hU]; exact hP, va_K.moved hW.alike hK, hD.weaken (fun _ _ _ _ => trivial), cT_warm hW hT⟩⟩
theorem cc_i {S : Type} {post : Int32 → S → Prop} {wo : S → va_W} (hr : va_Run p l e R s m args below meth c H locs cells slots mc ms (F0 m pc ls st0) rest (va_Qi post (cB D wo (va_A ws H.size)) (va_A ws H.size) a) (va_A ws H.size)) (hS : va_S A H0 H locs) (hD : va_D A ws) (hA : ∀ q, H0.size ≤ q → A q)
    (kk : ∀ (r : Int32) (u : S) (H1 : Heap) (locs1 : List Loc), post r u → va_P D vwCl (wo u) H1 → va_D A (wo u) → va_S A H0 H1 locs1 → W p l e R s m args below meth c H1 locs1 (cells + mc) (slots + ms) Q (F0 m (pc + 3) ls (.int r :: rest))) : W p l e R s m args below meth c H locs cells slots Q (F0 m pc ls st0) := by
  have hF := cc_free hD hS hA
  refine va_calli hr hS (fun q _ h => hF q h) hF (fun r u t H1 locs1 ht _ hp hB _ _ hS1 => ?_)
  exact kk r u H1 locs1 hp (ht ▸ hB.1) (hB.2.weaken fun _ q _ h => hF q.1 h) hS1
theorem cc_l {S : Type} {post : Int64 → S → Prop} {wo : S → va_W} (hr : va_Run p l e R s m args below meth c H locs cells slots mc ms (F0 m pc ls st0) rest (va_Ql post (cB D wo (va_A ws H.size)) (va_A ws H.size) a) (va_A ws H.size)) (hS : va_S A H0 H locs) (hD : va_D A ws) (hA : ∀ q, H0.size ≤ q → A q)
    (kk : ∀ (r : Int64) (u : S) (H1 : Heap) (locs1 : List Loc), post r u → va_P D vwCl (wo u) H1 → va_D A (wo u) → va_S A H0 H1 locs1 → W p l e R s m args below meth c H1 locs1 (cells + mc) (slots + ms) Q (F0 m (pc + 3) ls (.long r :: rest))) : W p l e R s m args below meth c H locs cells slots Q (F0 m pc ls st0) := by
  have hF := cc_free hD hS hA
  refine va_calll hr hS (fun q _ h => hF q h) hF (fun r u t H1 locs1 ht _ hp hB _ _ hS1 => ?_)
  exact kk r u H1 locs1 hp (ht ▸ hB.1) (hB.2.weaken fun _ q _ h => hF q.1 h) hS1
theorem cc_v {S : Type} {post : S → Prop} {wo : S → va_W} (hr : va_Run p l e R s m args below meth c H locs cells slots mc ms (F0 m pc ls st0) rest (va_Qv post (cB D wo (va_A ws H.size)) (va_A ws H.size) a) (va_A ws H.size)) (hS : va_S A H0 H locs) (hD : va_D A ws) (hA : ∀ q, H0.size ≤ q → A q)
    (kk : ∀ (u : S) (H1 : Heap) (locs1 : List Loc), post u → va_P D vwCl (wo u) H1 → va_D A (wo u) → va_S A H0 H1 locs1 → W p l e R s m args below meth c H1 locs1 (cells + mc) (slots + ms) Q (F0 m (pc + 3) ls rest)) : W p l e R s m args below meth c H locs cells slots Q (F0 m pc ls st0) := by
  have hF := cc_free hD hS hA
  refine va_callv hr hS (fun q _ h => hF q h) hF (fun u t H1 locs1 ht _ hp hB _ _ hS1 => ?_)
  exact kk u H1 locs1 hp (ht ▸ hB.1) (hB.2.weaken fun _ q _ h => hF q.1 h) hS1
theorem cc_q {S : Type} {post : Option Nat → S → Prop} {wo : S → va_W} (hr : va_Run p l e R s m args below meth c H locs cells slots mc ms (F0 m pc ls st0) rest (va_Qq post (cB D wo (va_A ws H.size)) (va_A ws H.size) a) (va_A ws H.size)) (hS : va_S A H0 H locs) (hD : va_D A ws) (hA : ∀ q, H0.size ≤ q → A q)
    (kk : ∀ (r : Option Nat) (u : S) (H1 : Heap) (locs1 : List Loc), post r u → va_P D vwCl (wo u) H1 → va_D A (wo u) → va_S A H0 H1 locs1 → W p l e R s m args below meth c H1 locs1 (cells + mc) (slots + ms) Q (F0 m (pc + 3) ls (va_rf r :: rest))) : W p l e R s m args below meth c H locs cells slots Q (F0 m pc ls st0) := by
  have hF := cc_free hD hS hA
  refine va_callq hr hS (fun q _ h => hF q h) hF (fun r u t H1 locs1 ht _ hp hB _ _ hS1 => ?_)
  exact kk r u H1 locs1 hp (ht ▸ hB.1) (hB.2.weaken fun _ q _ h => hF q.1 h) hS1
/-! the words of a call -/
theorem gd_in {ws9 : List Cond} (h : ∀ w ∈ ws9, w ∈ gT) : GoodIn gT ws9 := fun w hw => ⟨h w hw, good_of_word (List.mem_filter.mp (h w hw)).2⟩
theorem gd_code {y : MethodName} {cc : ByteArray} {n : Nat} {ret : Option FieldType} (h : Cond.code y cc n ret ∈ gT) : GoodIn gT (Cond.code y cc n ret :: gT) := gd_in fun w hw => by
  rcases List.mem_cons.mp hw with rfl | hw
  · exact h
  · exact hw
theorem cb_of {own : String} {index maxL n : Nat} {y : MethodName} {bytes : ByteArray} {ret : Option FieldType} {rm : Room} (hg : ∀ w ∈ gT, w.before args s = true) (hl : Cond.methodLink own index y ∈ gT) (hc : Cond.code y bytes maxL ret ∈ gT) (hi : Cond.initialized y.cls ∈ gT)
    (hd : y.cls ≠ "java/lang/invoke/MethodHandle" ∧ y.cls ≠ "java/lang/invoke/VarHandle" ∧ (parseMethodDescriptor y.desc).map (fun d => d.parameters.length) = some n) (hR : rm.frames + 1 ≤ R.frames ∧ 8 + (maxL + 11) + rm.locals ≤ R.locals) :
    CallB R s args own index y bytes maxL ret (Cond.code y bytes maxL ret :: gT) rm rm.cells rm.slots n := callB_of n hg (gd_code hc) rfl rfl rfl (hg _ hi) (hg _ hl) hd hR
theorem cv_of {own C : String} {index maxL n : Nat} {y : MethodName} {bytes : ByteArray} {ret : Option FieldType} {rm : Room} (hg : ∀ w ∈ gT, w.before args s = true) (hl : Cond.methodLink own index y ∈ gT) (hin : Cond.instanceMethod y ∈ gT) (hs : Cond.selects C y y ∈ gT) (hc : Cond.code y bytes maxL ret ∈ gT) (hi : Cond.initialized y.cls ∈ gT)
    (hd : y.cls ≠ "java/lang/invoke/MethodHandle" ∧ y.cls ≠ "java/lang/invoke/VarHandle" ∧ (parseMethodDescriptor y.desc).map (fun d => d.parameters.length) = some n) (hR : rm.frames + 1 ≤ R.frames ∧ 8 + (maxL + 11) + rm.locals ≤ R.locals) :
    CallW R s args own C index y bytes maxL ret (Cond.code y bytes maxL ret :: gT) rm rm.cells rm.slots n := ⟨cb_of hg hl hc hi hd hR, hg _ hin, hg _ hs⟩
/-! the ends of a method -/
theorem cr_i {S : Type} {post : Int32 → S → Prop} {wo : S → va_W} {cc : ByteArray} {v : Int32} (u : S) (hx : p.tables.exec = Jvm.exec) (hb : c.code = cc) (hr : meth.sig.returnType = some .int) (hlocks : meth.locks = false)
    (hS : va_S A s.heap H locs) (hP : va_P D vwCl (wo u) H) (hD : va_D A (wo u)) (hp : post v u) (hd : decode cc pc = .ok (.ireturn, 1)) :
    W p l e R s m args below meth c H locs cells slots (MQ below (va_Qi post (cB D wo A) A) args s cells slots A) (F0 m pc ls [.int v]) :=
  W.iret hx hb hr (fun t ht _ => ⟨⟨v, u, rfl, hp, by rw [ht]; exact hP, hD⟩, hS.F ht⟩) hS.2.2 hd hlocks
theorem cr_z {S : Type} {post : Int32 → S → Prop} {wo : S → va_W} {cc : ByteArray} {v : Int32} (u : S) (hx : p.tables.exec = Jvm.exec) (hb : c.code = cc) (hr : meth.sig.returnType = some .boolean) (hlocks : meth.locks = false)
    (hS : va_S A s.heap H locs) (hP : va_P D vwCl (wo u) H) (hD : va_D A (wo u)) (hn : narrow .boolean (.int v) = .int v) (hp : post v u) (hd : decode cc pc = .ok (.ireturn, 1)) :
    W p l e R s m args below meth c H locs cells slots (MQ below (va_Qi post (cB D wo A) A) args s cells slots A) (F0 m pc ls [.int v]) :=
  W.zret hx hb hr hn (fun t ht _ => ⟨⟨v, u, rfl, hp, by rw [ht]; exact hP, hD⟩, hS.F ht⟩) hS.2.2 hd hlocks
theorem cr_l {S : Type} {post : Int64 → S → Prop} {wo : S → va_W} {cc : ByteArray} {v : Int64} (u : S) (hx : p.tables.exec = Jvm.exec) (hb : c.code = cc) (hr : meth.sig.returnType = some .long) (hlocks : meth.locks = false)
    (hS : va_S A s.heap H locs) (hP : va_P D vwCl (wo u) H) (hD : va_D A (wo u)) (hp : post v u) (hd : decode cc pc = .ok (.lreturn, 1)) :
    W p l e R s m args below meth c H locs cells slots (MQ below (va_Ql post (cB D wo A) A) args s cells slots A) (F0 m pc ls [.long v]) :=
  W.lret hx hb hr (fun t ht _ => ⟨⟨v, u, rfl, hp, by rw [ht]; exact hP, hD⟩, hS.F ht⟩) hS.2.2 hd hlocks
theorem cr_v {S : Type} {post : S → Prop} {wo : S → va_W} {cc : ByteArray} (u : S) (hx : p.tables.exec = Jvm.exec) (hb : c.code = cc) (hr : meth.sig.returnType = none) (hlocks : meth.locks = false)
    (hS : va_S A s.heap H locs) (hP : va_P D vwCl (wo u) H) (hD : va_D A (wo u)) (hp : post u) (hd : decode cc pc = .ok (.return_, 1)) :
    W p l e R s m args below meth c H locs cells slots (MQ below (va_Qv post (cB D wo A) A) args s cells slots A) (F0 m pc ls []) :=
  W.vret hx hb hr (fun t ht _ => ⟨⟨u, rfl, hp, by rw [ht]; exact hP, hD⟩, hS.F ht⟩) hS.2.2 hd hlocks
theorem cr_q {S : Type} {post : Option Nat → S → Prop} {wo : S → va_W} {cc : ByteArray} {v : Option Nat} {C : String} (u : S) (hx : p.tables.exec = Jvm.exec) (hb : c.code = cc) (hr : meth.sig.returnType = some (.object C)) (hlocks : meth.locks = false)
    (hS : va_S A s.heap H locs) (hP : va_P D vwCl (wo u) H) (hD : va_D A (wo u)) (hp : post v u) (hd : decode cc pc = .ok (.areturn, 1)) :
    W p l e R s m args below meth c H locs cells slots (MQ below (va_Qq post (cB D wo A) A) args s cells slots A) (F0 m pc ls [va_rf v]) :=
  W.aret hx hb hr (Or.inl ⟨_, rfl⟩) (va_rf_or v) (fun t ht _ => ⟨⟨v, u, rfl, hp, by rw [ht]; exact hP, hD⟩, hS.F ht⟩) hS.2.2 hd hlocks
end CCalls
/-- an array's class by its element's type is one -/
theorem ck_uni {D : va_G} {tys : List (ClassId × FieldType)} {s : State} {cA t : ClassId} {ty : FieldType} (hK : va_K D vwCl (tys ++ [(cA, ty)]) s) (k : Nat) (hk : tys[k]? = some (t, ty)) (hty : ∀ C, ty ≠ .object C) : cA = t := by
  have h1 := (hK.2 tys.length (cA, ty) (by simp)).2
  have h2 := (hK.2 k (t, ty) (by rw [List.getElem?_append_left (List.getElem?_eq_some_iff.mp hk).1]; exact hk)).2
  cases ty with
  | object C => exact absurd rfl (hty C)
  | _ => exact Option.some.inj (h1.symm.trans h2)
theorem ck_uniO {D : va_G} {tys : List (ClassId × FieldType)} {s : State} {cA t : ClassId} {C : String} (hK : va_K D vwCl (tys ++ [(cA, .object C)]) s) (k : Nat) (hk : tys[k]? = some (t, .object C)) : cA = t := by
  obtain ⟨_, _, -, -, -, h1⟩ := (hK.2 tys.length (cA, .object C) (by simp)).2
  obtain ⟨_, _, -, -, -, h2⟩ := (hK.2 k (t, .object C) (by rw [List.getElem?_append_left (List.getElem?_eq_some_iff.mp hk).1]; exact hk)).2
  exact Option.some.inj (h1.symm.trans h2)
theorem ck_drop {D : va_G} {tys : List (ClassId × FieldType)} {s : State} {x : List (ClassId × FieldType)} (hK : va_K D vwCl (tys ++ x) s) : va_K D vwCl tys s :=
  ⟨hK.1, fun k q hk => hK.2 k q (by rw [List.getElem?_append_left (List.getElem?_eq_some_iff.mp hk).1]; exact hk)⟩

/-! ===== worlds side by side ===== -/
def dj (w v : va_W) : Prop := ∀ (i j : Nat) (p q : Nat × va_E), w[i]? = some p → v[j]? = some q → p.1 ≠ q.1
theorem dj.sy {w v : va_W} (h : dj w v) : dj v w := fun i j p q hi hj e => h j i q p hj hi e.symm
section Side
variable {D : va_G} {cl : List vw_C} {w w' v : va_W} {H H1 : Heap} {A : Nat → Prop} {x : Nat × va_E}
theorem fr_keep (hPv : va_P D cl v H) (hj : dj w v) (hk : ∀ q : Nat, q < H.size → ¬ va_A w H.size q → H1[q]? = H[q]?) : va_P D cl v H1 := hPv.kept (fun k q hq => hk _ (vx_lt hPv hq) (by
  rintro (⟨i, e, hi⟩ | h)
  · exact hj i k _ _ hi hq rfl
  · exact absurd (vx_lt hPv hq) (Nat.not_lt.mpr h)))
theorem fr_dj (hPv : va_P D cl v H) (hj : dj w v) (hD' : va_D (va_A w H.size) w') : dj w' v := by
  intro i j p q hi hj' e
  rcases hD'.2 i p hi with ⟨k, e', hk⟩ | h
  · exact hj k j _ q hk hj' e
  · have := vx_lt hPv hj'
    rw [e] at h
    omega
theorem fr_D (hD' : va_D (va_A w H.size) w') (hF : ∀ q, va_A w H.size q → A q) : va_D A w' := hD'.weaken (fun _ q _ h => hF q.1 h)
theorem cons_P (h : va_P D cl (x :: w) H) : va_P D cl [x] H ∧ va_P D cl w H := ⟨fun k q hk => by
    match k, hk with
    | 0, hk => exact h 0 q hk
    | k + 1, hk => simp at hk, fun k q hk => h (k + 1) q hk⟩
theorem cons_D (h : va_D A (x :: w)) : va_D A [x] ∧ va_D A w ∧ dj [x] w := by
  refine ⟨⟨fun i j p q hi hj e => ?_, fun k q hk => ?_⟩, ⟨fun i j p q hi hj e => ?_, fun k q hk => h.2 (k + 1) q hk⟩, fun i j p q hi hj e => ?_⟩
  · match i, j, hi, hj with
    | 0, 0, _, _ => rfl
    | i + 1, _, hi, _ => simp at hi
    | 0, j + 1, _, hj => simp at hj
  · match k, hk with
    | 0, hk => exact h.2 0 q hk
    | k + 1, hk => simp at hk
  · have := h.1 (i + 1) (j + 1) p q hi hj e
    omega
  · match i, hi with
    | 0, hi => exact absurd (h.1 0 (j + 1) p q hi hj e) (by omega)
    | i + 1, hi => simp at hi
theorem app_D {w1 w2 : va_W} (h1 : va_D A w1) (h2 : va_D A w2) (hx : dj w1 w2) : va_D A (w1 ++ w2) := h1.app h2 hx
theorem dj_cons (h1 : dj [x] v) (h2 : dj w v) : dj (x :: w) v := by
  intro i j p q hi hj e
  match i, hi with
  | 0, hi => exact h1 0 j p q hi hj e
  | i + 1, hi => exact h2 i j p q hi hj e
theorem dj_cons' (h : dj (x :: w) v) : dj [x] v ∧ dj w v := ⟨fun i j p q hi hj e => by
    match i, hi with
    | 0, hi => exact h 0 j p q hi hj e
    | i + 1, hi => simp at hi, fun i j p q hi hj e => h (i + 1) j p q hi hj e⟩
end Side
/-- no exception is taken for another -/
def cN (U : State) : Prop := ∀ i j : Nat, i < j → j < 7 → va_Nc (cCa j).1 (cCa i).1 U
theorem cN_go {u U : State} (hv : u.vm.Alike U.vm) (h : cN u) : cN U := fun i j h1 h2 => va_Nc.moved hv (h i j h1 h2)
def cPh (D : va_G) (tys : List (ClassId × FieldType)) (ws : va_W) (sz tot : Nat) (av : List Value) : Array Value → State → Prop := fun a U => cPxg D tys ws sz tot av a U ∧ cN U
theorem cPh_blind {D : va_G} {tys : List (ClassId × FieldType)} {ws : va_W} {sz tot : Nat} {av : List Value} : FrameBlind (cPh D tys ws sz tot av) := fun a U g mk q => ⟨cPxg_blind a U g mk q.1, cN_go (u := U) (U := U.calling g mk a) (Vm.Alike.refl U.vm) q.2⟩
/-- a method that throws nothing -/
abbrev cXn (A : Nat → Prop) : String → State → State → Prop := vx_X (fun _ : Unit => False) (fun _ _ _ => True) A
theorem ch_of {l : Launch} {y : MethodName} {rm : Room} {D : va_G} {tys : List (ClassId × FieldType)} {ws : va_W} {sz tot mc ms maxL : Nat} {av : List Value} {cc : ByteArray} {ret : Option FieldType} {hh : List (Nat × Nat × Nat × Nat)}
    {Qa : (Nat → Prop) → Array Value → State → Outcome → State → Prop} (hy : plainName y.cls = true) (hn : (lg_sl av).length ≤ maxL)
    (body : ∀ (p : Program) (e : Env) (s : State) (m : MethodId) (below : List Frame) (meth : Method) (c : Code) (A : Nat → Prop), p.tables.exec = Jvm.exec → c.code = cc → meth.sig.returnType = ret → c.maxLocals = maxL → c.exceptionTable.toList = tableOf hh →
      s.vm.findClass y.cls = some m.cls → (∀ w ∈ gT, w.before av.toArray s = true) → meth.locks = false → va_P D vwCl ws s.heap → va_K D vwCl tys s → va_D A ws → cT s → cTx s → cN s → cZx A s s.heap → va_S A s.heap s.heap [] → (∀ q, s.heap.size ≤ q → A q) → s.heap.size = sz → hsum s.heap = tot →
      ∀ ls : Array Slot, lv_has ls maxL (lv_args 0 av) → W p l e rm s m av.toArray below meth c s.heap [] 0 0 (vx_MQ below (Qa A) (cXn A) av.toArray s mc ms A) (F0 m 0 ls [])) :
    vx_Met l y (Cond.codeWith y cc maxL ret hh :: gT) rm (cPh D tys ws sz tot av) (Qa (va_A ws sz)) (cXn (va_A ws sz)) mc ms (va_A ws sz) := by
  refine vx_ofWH (cc := cc) (maxL := maxL) (ret := ret) (hh := hh) hy rfl ?_
  intro p e s m args below meth c s₁ B hml hv
  obtain ⟨⟨⟨rfl, hsz, hP, hK, hD0, hT, hTx, hZ⟩, htot⟩, hN⟩ := hv
  subst hsz
  rw [lg_entry_eq]
  have hall := atoms_spec (ws := Cond.codeWith y cc maxL ret hh :: gT) B.pre
  exact body p e s m below meth c _ B.exec B.bytes B.returns hml (vx_table (l := l) (x := y) B (hall _ List.mem_cons_self)) (findClass_of_methodNamed B.named) (fun w h => hall w (List.mem_cons_of_mem _ h)) B.notSynchronized hP hK (hD0.self (sz := s.heap.size)) hT hTx hN hZ va_S.rf (fun q h => Or.inr h) rfl htot _ (lv_entry av hn)
theorem ch_preV {s : State} {H : Heap} {locs : List Loc} {A : Nat → Prop} {D : va_G} {tys : List (ClassId × FieldType)} {ws : va_W} (hP : va_P D vwCl ws H) (hK : va_K D vwCl tys s) (hD : va_D A ws) (hT : cT s) (hTx : cTx s) (hZ : cZx A s s.heap) (hS : va_S A s.heap H locs) (hA : ∀ q, s.heap.size ≤ q → A q) {C : String} {b : Nat} {As : List Value} (hr : ∃ cell : Cell, H[b]? = some cell ∧ cell.vm.isStatics = false ∧ s.vm.findClass C = some cell.cls) : PreV s H C b (cPxg D tys ws H.size (hsum H) (.ref b :: As)) As :=
  ⟨cPxg_blind, hr, fun U hU hW => ⟨cx_pre hP hK hD hT hTx hZ hS hA U hU hW, by rw [hU]⟩⟩
theorem ch_preS {s : State} {H : Heap} {locs : List Loc} {A : Nat → Prop} {D : va_G} {tys : List (ClassId × FieldType)} {ws : va_W} (hP : va_P D vwCl ws H) (hK : va_K D vwCl tys s) (hD : va_D A ws) (hT : cT s) (hTx : cTx s) (hN : cN s) (hZ : cZx A s s.heap) (hS : va_S A s.heap H locs) (hA : ∀ q, s.heap.size ≤ q → A q) {As : List Value} : PreS s H (cPh D tys ws H.size (hsum H) As) As :=
  ⟨cPh_blind, fun U hU hW => ⟨⟨cx_pre hP hK hD hT hTx hZ hS hA U hU hW, by rw [hU]⟩, cN_go hW.alike hN⟩⟩
theorem ch_cw {R : Room} {s : State} {args : Array Value} {own : String} {index maxL n : Nat} {y : MethodName} {bytes : ByteArray} {ret : Option FieldType} {hh : List (Nat × Nat × Nat × Nat)} {rm : Room} (hg : ∀ w ∈ gT, w.before args s = true) (hl : Cond.methodLink own index y ∈ gT) (hc : Cond.codeWith y bytes maxL ret hh ∈ gT) (hi : Cond.initialized y.cls ∈ gT) (hs : Cond.static y ∈ gT)
    (hd : y.cls ≠ "java/lang/invoke/MethodHandle" ∧ y.cls ≠ "java/lang/invoke/VarHandle" ∧ (parseMethodDescriptor y.desc).map (fun d => d.parameters.length) = some n) (hR : rm.frames + 1 ≤ R.frames ∧ 8 + (maxL + 11) + rm.locals ≤ R.locals) :
    vx_CSW R s args own index y bytes maxL ret hh (Cond.codeWith y bytes maxL ret hh :: gT) rm rm.cells rm.slots n := by
  refine ⟨⟨rfl, rfl, hR.1, hR.2, pay_in hg (gd_in fun w hw => ?_), List.mem_cons_self⟩, hg _ hc, hg _ hi, ⟨hd.1, hd.2.1⟩, fun sig h => ?_, hg _ hl, hg _ hs⟩
  · rcases List.mem_cons.mp hw with rfl | hw
    · exact hc
    · exact hw
  · have h2 := hd.2.2
    rw [h] at h2
    exact (Option.some.inj h2).symm
theorem wH_L_op : Cond.codeWith yL_op cL_op 7 (some .int) [(0, 13, 16, 13), (0, 13, 20, 15), (0, 13, 24, 17), (0, 13, 28, 19), (0, 13, 32, 21), (0, 13, 36, 23), (0, 13, 41, 25)] ∈ gT := gw 179 rfl rfl
set_option maxRecDepth 100000 in
theorem wH_L_load : Cond.codeWith yL_load cL_load 8 (some .int) [(0, 16, 19, 17)] ∈ gT := gw 720 rfl rfl
set_option maxRecDepth 100000 in
theorem wH_L_run : Cond.codeWith yL_run cL_run 5 (some .int) [(0, 10, 13, 13), (0, 10, 17, 15), (0, 10, 21, 17), (0, 10, 25, 19), (0, 10, 29, 21), (0, 10, 33, 23), (0, 10, 38, 25)] ∈ gT := gw 744 rfl rfl
/-- the mill beside the law's row 'out' -/
abbrev lW (g : Nat → Nat) (ty : Nat → ClassId) (qo : Nat) (o : Nat → Int64) (A : ((Nat → Option Nat) × Int64 × Int32 × Int32 × cZ × cQ)) : va_W := (qo, .inl (ty 2, 1, .inr (.inl o))) :: cW g ty A.1 A.2.1 A.2.2.1 A.2.2.2.1 A.2.2.2.2.1 A.2.2.2.2.2
theorem f7 {f : Int32} (h : ∃ k : Nat, k < 7 ∧ f = nI k) : f = 0 ∨ f = 1 ∨ f = 2 ∨ f = 3 ∨ f = 4 ∨ f = 5 ∨ f = 6 := by
  obtain ⟨k, hk, rfl⟩ := h
  have h7 : ∀ k : Fin 7, nI k.1 = 0 ∨ nI k.1 = 1 ∨ nI k.1 = 2 ∨ nI k.1 = 3 ∨ nI k.1 = 4 ∨ nI k.1 = 5 ∨ nI k.1 = 6 := by decide
  exact h7 ⟨k, hk⟩
theorem unw_fo (n : Nat) (ac : Int64) (ft : Int32) (Z : cZ) (h : fo (-1) ft) : fo (-1) (zUnw n ac ft Z).2.1 := by
  induction n generalizing Z with
  | zero => exact h
  | succ n ih =>
    rw [zUnw_s]
    split
    · exact Or.inl rfl
    · split
      · exact ih _
      · exact ih _
theorem st_fo {pl : Nat → Option Nat} {ac : Int64} {ft md : Int32} {Z : cZ} {P : cQ} {u : ((Nat → Option Nat) × Int64 × Int32 × Int32 × cZ × cQ)} (h : q_X11_step pl ac ft md Z P u) (wf : cWF pl P) (hf : fo (-1) ft) : fo (-1) u.2.2.1 := by
  rcases h with ⟨rfl, h1, h2⟩ | ⟨r9, u9, rfl, hw, hq, hn⟩ | ⟨r9, u9, rfl, hw, hq, hn⟩
  · exact hf
  · have h9 := (wq_answerOf wf hq).2.1
    show fo (-1) u9.2.1
    rcases h9 with e | e
    · rw [e]; exact hf
    · exact Or.inr e
  · have h9 := (wq_answerOf wf hq).2.1
    refine unw_fo _ _ _ _ ?_
    rcases h9 with e | e
    · rw [e]; exact hf
    · exact Or.inr e
/-- what a run keeps -/
theorem md_st {C : Prop} {md m2 : Int32} (hc : C → md < 6000) (h1 : C → m2 = md + 1) (h2 : ¬ C → m2 = md) (hm : 0 ≤ md ∧ md ≤ 6000) : (0 ≤ m2 ∧ m2 ≤ 6000) ∧ md.toNatClampNeg ≤ m2.toNatClampNeg := by
  by_cases hk : C
  · have e := md_up hm.1 (hc hk)
    rw [h1 hk]
    exact ⟨⟨e.1, e.2.1⟩, by omega⟩
  · rw [h2 hk]
    exact ⟨hm, Nat.le_refl _⟩
theorem sts_keep {n : Nat} {A B : ((Nat → Option Nat) × Int64 × Int32 × Int32 × cZ × cQ)} (h : mSts n A B) (wf : cWF A.1 A.2.2.2.2.2) (hz : zOk (mZ A)) (hm : 0 ≤ A.2.2.2.1 ∧ A.2.2.2.1 ≤ 6000) (hf : A.2.2.1 = -1) : cWF B.1 B.2.2.2.2.2 ∧ zOk (mZ B) ∧ (0 ≤ B.2.2.2.1 ∧ B.2.2.2.1 ≤ 6000) ∧ A.2.2.2.1.toNatClampNeg ≤ B.2.2.2.1.toNatClampNeg ∧ fo (-1) B.2.2.1 := by
  induction n generalizing B with
  | zero =>
    obtain rfl : B = A := h
    exact ⟨wf, hz, hm, Nat.le_refl _, Or.inl hf⟩
  | succ n ih =>
    obtain ⟨x, h1, h2, h3, h4⟩ := h
    obtain ⟨i1, i2, i3, i4, i5⟩ := ih h1
    obtain ⟨k1, k2, k3, k4, k5⟩ := st_keep h4 i1 (zok_fu i2) h3 i3
    refine ⟨k1, k2, ?_⟩
    have hfo : fo (-1) B.2.2.1 := st_fo h4 i1 i5
    have e := md_st (fun q => q.1) k4 k5 i3
    exact ⟨e.1, by omega, hfo⟩
theorem zst_ok {Z : cZ} (h : zOk Z) (i f : Int32) : zOk (zSt Z i f) := by
  refine zok_at (zok_fu h) ?_
  by_cases h2 : i < 0
  · rw [if_pos h2]; decide
  · rw [if_neg h2]
    by_cases h3 : 256 ≤ i
    · rw [if_pos h3]; decide
    · rw [if_neg h3]
      refine ⟨nn_of h2, ?_⟩
      rw [Int32.le_iff_toInt_le, ci_256] at h3 ⊢
      omega
theorem run_f7 {i0 f0 : Int32} {pl : Nat → Option Nat} {ac : Int64} {ft md : Int32} {Z : cZ} {P : cQ} {u : ((Nat → Option Nat) × Int64 × Int32 × Int32 × cZ × cQ)} (wf : cWF pl P) (hz : zOk Z) (hm : 0 ≤ md ∧ md ≤ 6000) (h : px_X11_run i0 f0 pl ac ft md Z P u) : ∃ k : Nat, k < 7 ∧ u.2.2.1 = nI k := by
  obtain ⟨n9, b9, rfl, hs, -, hf⟩ := h
  exact ((sts_keep hs wf (zst_ok hz _ _) hm rfl).2.2.2.2).resolve_left hf
theorem run_md {i0 f0 : Int32} {pl : Nat → Option Nat} {ac : Int64} {ft md : Int32} {Z : cZ} {P : cQ} {u : ((Nat → Option Nat) × Int64 × Int32 × Int32 × cZ × cQ)} {r : Int32} (hm : 0 ≤ md ∧ md ≤ 6000) (wf : cWF pl P) (hz : zOk Z) (h : q_X11_run i0 f0 pl ac ft md Z P r u) : u.2.2.2.1.toNatClampNeg ≤ 6000 := by
  rcases h with ⟨n9, b9, -, rfl, hs, -, hf, -⟩ | ⟨n9, b9, -, rfl, hs, -, hf, -⟩
  · have := (sts_keep hs wf (zst_ok hz _ _) hm rfl).2.2.1
    exact md_6000 this.1 this.2
  · have := (sts_keep hs wf (zst_ok hz _ _) hm rfl).2.2.1
    exact md_6000 this.1 this.2

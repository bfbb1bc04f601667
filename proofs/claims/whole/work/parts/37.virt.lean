set_option maxHeartbeats 800000 in
set_option maxRecDepth 100000 in
theorem c_X3_weightB (l : Launch) (dC : Nat → ClassId) (dI : Nat → Nat → Nat) (tys : List (ClassId × FieldType)) (ws : va_W) (sz : Nat)  (a0 : Nat) (k0 : Nat) (v0 w0 : Int32) (x0 : Value) (s0 : Int32) (pre0 : ws[k0]? = some (a0, .inr (5, [.int w0, .int v0, x0]))) : Met l yX3_weight (Cond.code yX3_weight cX3_weight 2 (some .int) :: gT) ({ frames := 0, cells := 0, slots := 0, locals := 0 }) (cP (dC, dI) tys (ws) sz [.ref (a0), .int s0]) (va_Qi (fun (rz : Int32) (u : Unit) => (v0 * 5 - s0) = rz) (cB (dC, dI) (fun u : Unit => ws) (va_A (ws) sz)) (va_A (ws) sz)) 0 0 (va_A (ws) sz) := by
  refine cc_of (Qa := fun A => va_Qi (fun (rz : Int32) (u : Unit) => (v0 * 5 - s0) = rz) (cB (dC, dI) (fun u : Unit => ws) A) A) (by decide) (Nat.le_of_ble_eq_true rfl) ?_
  intro p e s m below meth c A hx hb hr hml hown hg hlk hmn hP hK hD hT hS hA hsz ls hl
  have hown : s.vm.findClass RX3 = some m.cls := hown
  have hl : lv_has ls 2 [(0, .ref a0), (1, .int s0)] := hl
  refine lv_aload_n hx hb dX3_weight_0 rfl (lv_at hl 0 rfl) ?_
  refine va_get (D := (dC, dI)) (ci := 5) (v := .int v0) (C := RX0) (T := TX0) (N := 3) hx hb hg inG0 hown hK hP k0 pre0 rfl 1 (by decide) (hg _ wF_X3_15) (fun x h9 => u_same (hg _ wY_X3_value) x h9) rfl dX3_weight_1 ?_
  refine lv_iconst (v := 5) hx hb dX3_weight_4 (by decide) ?_
  refine lv_imul hx hb dX3_weight_5 ?_
  refine lv_iload_n hx hb dX3_weight_6 rfl (lv_at hl 1 rfl) ?_
  refine lv_isub hx hb dX3_weight_7 ?_
  refine cr_i (wo := fun u : Unit => ws) (()) hx hb hr hlk hS hP hD ?_ dX3_weight_8
  exact rfl
set_option maxHeartbeats 800000 in
set_option maxRecDepth 100000 in
theorem c_X0_weight (l : Launch) (dC : Nat → ClassId) (dI : Nat → Nat → Nat) (tys : List (ClassId × FieldType)) (ws : va_W) (sz a0 k0 : Nat) (v0 w0 : Int32) (x0 : Value) (s0 : Int32) (pre0 : ws[k0]? = some (a0, .inr (5, [.int w0, .int v0, x0]))) : Met l yX0_weight (Cond.code yX0_weight cX0_weight 2 (some .int) :: gT) ({ frames := 1, cells := 0, slots := 0, locals := 21 }) (cP (dC, dI) tys ws sz [.ref a0, .int s0]) (va_Qi (fun (rz : Int32) (u : Unit) => (v0 * 5 - s0 + 1) = rz) (cB (dC, dI) (fun u : Unit => ws) (va_A ws sz)) (va_A ws sz)) 0 0 (va_A ws sz) := by
  refine cc_of (Qa := fun A => va_Qi (fun (rz : Int32) (u : Unit) => (v0 * 5 - s0 + 1) = rz) (cB (dC, dI) (fun u : Unit => ws) A) A) (by decide) (Nat.le_of_ble_eq_true rfl) ?_
  intro p e s m below meth c A hx hb hr hml hown hg hlk hmn hP hK hD hT hS hA hsz ls hl
  have hown : s.vm.findClass RX0 = some m.cls := hown
  have hl : lv_has ls 2 [(0, .ref a0), (1, .int s0)] := hl
  refine lv_aload_n hx hb dX0_weight_0 rfl (lv_at hl 0 rfl) ?_
  refine lv_iload_n hx hb dX0_weight_1 rfl (lv_at hl 1 rfl) ?_
  refine cc_i (va_runSU (n := 1) (As := [.int s0]) (rest := []) (C := RX0) (hK.1 5 _ rfl).2 ⟨hx, hb, hml, hown, hg⟩ (c_X3_weightB l dC dI tys ws s.heap.size a0 k0 v0 w0 x0 s0 pre0) (va_cwSU (Ts := gT) 1 hg (gd_in fun w hw => ?_) rfl rfl rfl ⟨by decide, by decide +kernel⟩ ⟨Nat.le_of_ble_eq_true rfl, Nat.le_of_ble_eq_true rfl⟩) (cc_preV hP hK hD hT (va_recv hK hP (ci := 5) (q0 := k0) rfl pre0)) rfl rfl hl.1 rfl (lv_room (Nat.le_of_ble_eq_true rfl)) dX0_weight_2 ⟨Nat.le_of_ble_eq_true rfl, Nat.le_of_ble_eq_true rfl⟩) hS hD hA (fun r u H locs hq hP hD hS => ?_)
  · simp only [va_wsSU, List.mem_append, List.mem_cons, List.not_mem_nil, or_false] at hw
    rcases hw with (rfl | rfl | rfl | rfl | rfl) | (rfl | hw)
    · exact wM_X0_7
    · exact wZ_X3_weight
    · exact wU_X0
    · exact wN_X3_weight
    · exact wI_X3
    · exact wK_X3_weight
    · exact hw
  · subst hq
    refine lv_iconst (v := 1) hx hb dX0_weight_5 (by decide) ?_
    refine lv_iadd hx hb dX0_weight_6 ?_
    exact cr_i (wo := fun u : Unit => ws) () hx hb hr hlk hS hP hD rfl dX0_weight_7
section CVirt
variable {p : Program} {l : Launch} {e : Env} {R : Room} {s : State} {m : MethodId} {args : Array Value} {below : List Frame} {meth : Method} {c : Code} {H : Heap} {locs : List Loc} {cells slots : Nat} {Q : State → Prop}
variable {cc : ByteArray} {pc nL : Nat} {ls : Array Slot} {rest : List Value} {tys : List (ClassId × FieldType)} {X : va_W} {ty : Nat → ClassId} {P : cQ} {a : Nat} {own : String} {A : Nat → Prop} {H0 : Heap}
/-- what a box weighs -/
def kWt (k : Nat) (v b : Int32) : Int32 := match k with
  | 0 => v * 5 - b + 1 | 1 => v * 5 - b | _ => v * 3 + b
theorem cI_weight {dC : Nat → ClassId} {dI : Nat → Nat → Nat} {index : Nat} {s0 : Int32} (hx : p.tables.exec = Jvm.exec) (hb : c.code = cc) (hml : c.maxLocals = nL) (hown : s.vm.findClass own = some m.cls) (hg : ∀ w ∈ gT, w.before args s = true) (hT : cT s) (hlk : Cond.methodLink own index yWeight ∈ gT)
    (hK : va_K (dC, dI) vwCl tys s) (hP : va_P (dC, dI) vwCl (X ++ va_pl P.1 (cpf ty P)) H) (hD : va_D A (X ++ va_pl P.1 (cpf ty P))) (hS : va_S A H0 H locs) (hA : ∀ q, H0.size ≤ q → A q) (ha : a ∈ P.1) (hk : P.2.1 a < 3)
    (hz : ls.size = nL) (hW : (rest.map fun v => v.category).sum ≤ 8) (hdg : decode cc pc = .ok (.invokevirtual index, 3)) (hR : 2 ≤ R.frames ∧ 42 ≤ R.locals) (hf : cells ≤ R.cells ∧ slots ≤ R.slots)
    (kk : ∀ (H1 : Heap) (locs1 : List Loc), va_P (dC, dI) vwCl (X ++ va_pl P.1 (cpf ty P)) H1 → va_S A H0 H1 locs1 → W p l e R s m args below meth c H1 locs1 cells slots Q (F0 m (pc + 3) ls (.int (kWt (P.2.1 a) (P.2.2.1 a) s0) :: rest))) :
    W p l e R s m args below meth c H locs cells slots Q (F0 m pc ls (.int s0 :: .ref a :: rest)) := by
  have hrc := cI_recv hK hP ha (Nat.lt_trans hk (by decide))
  have hd1 := hT.2.2.2.2.2.1
  have h3 : P.2.1 a = 0 ∨ P.2.1 a = 1 ∨ P.2.1 a = 2 := by omega
  rcases h3 with hke | hke | hke
  · rw [hke] at hrc
    obtain ⟨j, hj, -⟩ := cg_box (X := X) (ty := ty) ha hke (by decide) [.int (P.2.2.2.1 a), .int (P.2.2.1 a), va_rf (P.2.2.2.2.1 a)] (by simp [cFs, hke])
    refine cU_i (n := 1) (C := RX0) (owner := RX2) (x := yWeight) hx hb hml hown hg hT (c_X0_weight l dC dI tys _ H.size a j _ _ _ s0 hj) (cu_of hg hlk wZ_X2_weight wL_X0_X0_weight wN_X0_weight wI_X0 wK_X0_weight hd1 (by decide +kernel) ⟨by show 1 + 1 ≤ R.frames; omega, by show 8 + (2 + 11) + 21 ≤ R.locals; omega⟩) hK hP hD hS hA hrc rfl hz rfl hW hdg hf (fun r u H1 locs1 hq hP1 _ hS1 => ?_)
    subst hq
    have q := kk H1 locs1 hP1 hS1
    rw [hke] at q
    exact q
  · rw [hke] at hrc
    obtain ⟨j, hj, -⟩ := cg_box (X := X) (ty := ty) ha hke (by decide) [.int (P.2.2.1 a), va_rf (P.2.2.2.2.1 a), .int (P.2.2.2.1 a)] (by simp [cFs, hke])
    refine cU_i (n := 1) (C := RX3) (owner := RX2) (x := yWeight) hx hb hml hown hg hT (c_X3_weight l dC dI tys _ H.size a j _ _ _ s0 hj) (cu_of hg hlk wZ_X2_weight wL_X3_X3_weight wN_X3_weight wI_X3 wK_X3_weight hd1 (by decide +kernel) ⟨by show 0 + 1 ≤ R.frames; omega, by show 8 + (2 + 11) + 0 ≤ R.locals; omega⟩) hK hP hD hS hA hrc rfl hz rfl hW hdg hf (fun r u H1 locs1 hq hP1 _ hS1 => ?_)
    subst hq
    have q := kk H1 locs1 hP1 hS1
    rw [hke] at q
    exact q
  · rw [hke] at hrc
    obtain ⟨j, hj, -⟩ := cg_box (X := X) (ty := ty) ha hke (by decide) [.int (P.2.2.1 a), va_rf (P.2.2.2.2.1 a)] (by simp [cFs, hke])
    refine cU_i (n := 1) (C := RX9) (owner := RX2) (x := yWeight) hx hb hml hown hg hT (c_X9_weight l dC dI tys _ H.size a j _ _ s0 hj) (cu_of hg hlk wZ_X2_weight wL_X9_X9_weight wN_X9_weight wI_X9 wK_X9_weight hd1 (by decide +kernel) ⟨by show 0 + 1 ≤ R.frames; omega, by show 8 + (2 + 11) + 0 ≤ R.locals; omega⟩) hK hP hD hS hA hrc rfl hz rfl hW hdg hf (fun r u H1 locs1 hq hP1 _ hS1 => ?_)
    subst hq
    have q := kk H1 locs1 hP1 hS1
    rw [hke] at q
    exact q
theorem cf_of {own C : String} {index maxL n : Nat} {x y : MethodName} {bytes : ByteArray} {ret : Option FieldType} {rm : Room} (hg : ∀ w ∈ gT, w.before args s = true) (hl : Cond.methodLink own index x ∈ gT) (hs : Cond.selects C x y ∈ gT) (hin : Cond.instanceMethod y ∈ gT) (hi : Cond.initialized y.cls ∈ gT) (hc : Cond.code y bytes maxL ret ∈ gT) (hF : va_Fw C x y s)
    (hd : x.cls ≠ "java/lang/invoke/MethodHandle" ∧ x.cls ≠ "java/lang/invoke/VarHandle" ∧ (parseMethodDescriptor x.desc).map (fun d => d.parameters.length) = some n) (hR : rm.frames + 1 ≤ R.frames ∧ 8 + (maxL + 11) + rm.locals ≤ R.locals) : va_CI R s args own C index x y bytes maxL ret (Cond.code y bytes maxL ret :: gT) rm rm.cells rm.slots n :=
  va_cwF n hg (gd_in fun w hw => by
    simp only [va_wsF, List.mem_append, List.mem_cons, List.not_mem_nil, or_false] at hw
    rcases hw with (rfl | rfl | rfl | rfl) | (rfl | hw)
    · exact hl
    · exact hs
    · exact hin
    · exact hi
    · exact hc
    · exact hw) rfl rfl rfl hF hd hR
theorem cF_i {D : va_G} {S : Type} {wo : S → va_W} {post : Int32 → S → Prop} {x y : MethodName} {bytes : ByteArray} {maxL n index count b : Nat} {ret : Option FieldType} {rm : Room} {C : String} {cC : ClassId} {As : List Value} {ws : va_W} {st0 : List Value} (hat : ClassAt s C cC) (hx : p.tables.exec = Jvm.exec) (hb : c.code = cc) (hml : c.maxLocals = nL) (hown : s.vm.findClass own = some m.cls) (hg : ∀ w ∈ gT, w.before args s = true) (hT : cT s)
    (hM : Met l y (Cond.code y bytes maxL ret :: gT) rm (cP D tys ws H.size (.ref b :: As)) (va_Qi post (cB D wo (va_A ws H.size)) (va_A ws H.size)) rm.cells rm.slots (va_A ws H.size))
    (cw : va_CI R s args own C index x y bytes maxL ret (Cond.code y bytes maxL ret :: gT) rm rm.cells rm.slots n)
    (hK : va_K D vwCl tys s) (hP : va_P D vwCl ws H) (hD : va_D A ws) (hS : va_S A H0 H locs) (hA : ∀ q, H0.size ≤ q → A q) (hr : ∃ cell : Cell, H[b]? = some cell ∧ cell.vm.isStatics = false ∧ s.vm.findClass C = some cell.cls)
    (hn : As.length = n) (hz : ls.size = nL) (hst : st0 = As.reverse ++ .ref b :: rest) (hW : (rest.map fun v => v.category).sum ≤ 8) (hdg : decode cc pc = .ok (.invokeinterface index count, 5)) (hf : cells + rm.cells ≤ R.cells ∧ slots + rm.slots ≤ R.slots)
    (kk : ∀ (r : Int32) (u : S) (H1 : Heap) (locs1 : List Loc), post r u → va_P D vwCl (wo u) H1 → va_D A (wo u) → va_S A H0 H1 locs1 → W p l e R s m args below meth c H1 locs1 (cells + rm.cells) (slots + rm.slots) Q (F0 m (pc + 5) ls (.int r :: rest))) :
    W p l e R s m args below meth c H locs cells slots Q (F0 m pc ls st0) := by
  have hF := cc_free hD hS hA
  refine va_callFi (va_runF (As := As) (rest := rest) hat ⟨hx, hb, hml, hown, hg⟩ hM cw (cc_preV hP hK hD hT hr) rfl hn hz hst (lv_room hW) hdg hf) hS (fun q _ h => hF q h) hF (fun r u t H1 locs1 ht _ hp hB _ _ hS1 => ?_)
  exact kk r u H1 locs1 hp (ht ▸ hB.1) (hB.2.weaken fun _ q _ h => hF q.1 h) hS1
/-- what rolls answers -/
def kRo (k : Nat) (v b : Int32) : Int32 := match k with
  | 0 => v ||| b | 1 => v ^^^ b | _ => v &&& b
theorem cI_roll {dC : Nat → ClassId} {dI : Nat → Nat → Nat} {index count : Nat} {s0 : Int32} (hx : p.tables.exec = Jvm.exec) (hb : c.code = cc) (hml : c.maxLocals = nL) (hown : s.vm.findClass own = some m.cls) (hg : ∀ w ∈ gT, w.before args s = true) (hT : cT s) (hlk : Cond.methodLink own index yRolled ∈ gT)
    (hK : va_K (dC, dI) vwCl tys s) (hP : va_P (dC, dI) vwCl (X ++ va_pl P.1 (cpf ty P)) H) (hD : va_D A (X ++ va_pl P.1 (cpf ty P))) (hS : va_S A H0 H locs) (hA : ∀ q, H0.size ≤ q → A q) (ha : a ∈ P.1) (hk : P.2.1 a = 0 ∨ P.2.1 a = 1 ∨ P.2.1 a = 3)
    (hz : ls.size = nL) (hW : (rest.map fun v => v.category).sum ≤ 8) (hdg : decode cc pc = .ok (.invokeinterface index count, 5)) (hR : 1 ≤ R.frames ∧ 21 ≤ R.locals) (hf : cells ≤ R.cells ∧ slots ≤ R.slots)
    (kk : ∀ (H1 : Heap) (locs1 : List Loc), va_P (dC, dI) vwCl (X ++ va_pl P.1 (cpf ty P)) H1 → va_S A H0 H1 locs1 → W p l e R s m args below meth c H1 locs1 cells slots Q (F0 m (pc + 5) ls (.int (kRo (P.2.1 a) (P.2.2.1 a) s0) :: rest))) :
    W p l e R s m args below meth c H locs cells slots Q (F0 m pc ls (.int s0 :: .ref a :: rest)) := by
  have hrc := cI_recv hK hP ha (show P.2.1 a < 7 by omega)
  rcases hk with hke | hke | hke
  · rw [hke] at hrc
    obtain ⟨j, hj, -⟩ := cg_box (X := X) (ty := ty) ha hke (by decide) [.int (P.2.2.2.1 a), .int (P.2.2.1 a), va_rf (P.2.2.2.2.1 a)] (by simp [cFs, hke])
    refine cF_i (n := 1) (C := RX0) (x := yRolled) (hK.1 5 _ rfl).2 hx hb hml hown hg hT (c_X0_rolled l dC dI tys _ H.size a j _ _ _ s0 hj) (cf_of hg hlk wL_X0_X0_rolled wN_X0_rolled wI_X0 wK_X0_rolled hT.2.2.2.2.2.2.1 (by decide +kernel) ⟨by show 0 + 1 ≤ R.frames; omega, by show 8 + (2 + 11) + 0 ≤ R.locals; omega⟩) hK hP hD hS hA hrc rfl hz rfl hW hdg hf (fun r u H1 locs1 hq hP1 _ hS1 => ?_)
    subst hq
    have q := kk H1 locs1 hP1 hS1
    rw [hke] at q
    exact q
  · rw [hke] at hrc
    obtain ⟨j, hj, -⟩ := cg_box (X := X) (ty := ty) ha hke (by decide) [.int (P.2.2.1 a), va_rf (P.2.2.2.2.1 a), .int (P.2.2.2.1 a)] (by simp [cFs, hke])
    refine cF_i (n := 1) (C := RX3) (x := yRolled) (hK.1 7 _ rfl).2 hx hb hml hown hg hT (c_X3_rolled l dC dI tys _ H.size a j _ _ _ s0 hj) (cf_of hg hlk wL_X3_X3_rolled wN_X3_rolled wI_X3 wK_X3_rolled hT.2.2.2.2.2.2.2.1 (by decide +kernel) ⟨by show 0 + 1 ≤ R.frames; omega, by show 8 + (2 + 11) + 0 ≤ R.locals; omega⟩) hK hP hD hS hA hrc rfl hz rfl hW hdg hf (fun r u H1 locs1 hq hP1 _ hS1 => ?_)
    subst hq
    have q := kk H1 locs1 hP1 hS1
    rw [hke] at q
    exact q
  · rw [hke] at hrc
    obtain ⟨j, hj, -⟩ := cg_box (X := X) (ty := ty) ha hke (by decide) [.int (P.2.2.1 a)] (by simp [cFs, hke])
    refine cF_i (n := 1) (C := RX4) (x := yRolled) (hK.1 8 _ rfl).2 hx hb hml hown hg hT (c_X4_rolled l dC dI tys _ H.size a j _ s0 hj) (cf_of hg hlk wL_X4_X4_rolled wN_X4_rolled wI_X4 wK_X4_rolled hT.2.2.2.2.2.2.2.2 (by decide +kernel) ⟨by show 0 + 1 ≤ R.frames; omega, by show 8 + (2 + 11) + 0 ≤ R.locals; omega⟩) hK hP hD hS hA hrc rfl hz rfl hW hdg hf (fun r u H1 locs1 hq hP1 _ hS1 => ?_)
    subst hq
    have q := kk H1 locs1 hP1 hS1
    rw [hke] at q
    exact q
end CVirt

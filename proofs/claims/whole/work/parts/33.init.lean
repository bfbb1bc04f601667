theorem lset_self {α : Type} {l : List α} {k : Nat} {x y : α} (h : l[k]? = some x) : (l.set k y)[k]? = some y := List.getElem?_set_self (List.getElem?_eq_some_iff.mp h).1
section CInit
variable {p : Program} {l : Launch} {e : Env} {R : Room} {s : State} {m : MethodId} {args : Array Value} {below : List Frame} {meth : Method} {c : Code} {H : Heap} {locs : List Loc} {cells slots : Nat} {Q : State → Prop}
variable {pc nL : Nat} {ls : Array Slot} {rest st0 : List Value} {A : Nat → Prop} {H0 : Heap} {D : va_G} {tys : List (ClassId × FieldType)} {ws : va_W}
variable {y : MethodName} {bytes cc : ByteArray} {maxL n index b : Nat} {rm : Room} {own : String} {As : List Value} {S : Type} {wo : S → va_W}
theorem cN_v {post : S → Prop} (hx : p.tables.exec = Jvm.exec) (hb : c.code = cc) (hml : c.maxLocals = nL) (hown : s.vm.findClass own = some m.cls) (hg : ∀ w ∈ gT, w.before args s = true) (hT : cT s)
    (hM : Met l y (Cond.code y bytes maxL none :: gT) rm (cP D tys ws H.size (.ref b :: As)) (va_Qv post (cB D wo (va_A ws H.size)) (va_A ws H.size)) rm.cells rm.slots (va_A ws H.size))
    (cw : CallB R s args own index y bytes maxL none (Cond.code y bytes maxL none :: gT) rm rm.cells rm.slots n) (hy : y.name = "<init>") (hin : Cond.instanceMethod y ∈ gT)
    (hK : va_K D vwCl tys s) (hP : va_P D vwCl ws H) (hD : va_D A ws) (hS : va_S A H0 H locs) (hA : ∀ q, H0.size ≤ q → A q)
    (hn : As.length = n) (hz : ls.size = nL) (hst : st0 = As.reverse ++ .ref b :: rest) (hW : (rest.map fun v => v.category).sum ≤ 8) (hdg : decode cc pc = .ok (.invokespecial index, 3)) (hf : cells + rm.cells ≤ R.cells ∧ slots + rm.slots ≤ R.slots)
    (kk : ∀ (u : S) (H1 : Heap) (locs1 : List Loc), post u → va_P D vwCl (wo u) H1 → va_D A (wo u) → va_S A H0 H1 locs1 → W p l e R s m args below meth c H1 locs1 (cells + rm.cells) (slots + rm.slots) Q (F0 m (pc + 3) ls rest)) :
    W p l e R s m args below meth c H locs cells slots Q (F0 m pc ls st0) :=
  cc_v (va_runI (As := As) (rest := rest) ⟨hx, hb, hml, hown, hg⟩ hM ⟨cw, hy, hg _ hin⟩ (cc_preS hP hK hD hT) rfl hn hz hst (lv_room hW) hdg hf) hS hD hA kk
/-- the things' own super(): by a nest mate's link -/
theorem cNN_v {host : String} {post : S → Prop} (hx : p.tables.exec = Jvm.exec) (hb : c.code = cc) (hml : c.maxLocals = nL) (hown : s.vm.findClass own = some m.cls) (hg : ∀ w ∈ gT, w.before args s = true) (hT : cT s)
    (hM : Met l y (Cond.code y bytes maxL none :: gT) rm (cP D tys ws H.size (.ref b :: As)) (va_Qv post (cB D wo (va_A ws H.size)) (va_A ws H.size)) rm.cells rm.slots (va_A ws H.size))
    (cw : va_CN R s args own index y host bytes maxL none (Cond.code y bytes maxL none :: gT) rm rm.cells rm.slots n) (hy : y.name = "<init>") (hin : Cond.instanceMethod y ∈ gT)
    (hK : va_K D vwCl tys s) (hP : va_P D vwCl ws H) (hD : va_D A ws) (hS : va_S A H0 H locs) (hA : ∀ q, H0.size ≤ q → A q)
    (hn : As.length = n) (hz : ls.size = nL) (hst : st0 = As.reverse ++ .ref b :: rest) (hW : (rest.map fun v => v.category).sum ≤ 8) (hdg : decode cc pc = .ok (.invokespecial index, 3)) (hf : cells + rm.cells ≤ R.cells ∧ slots + rm.slots ≤ R.slots)
    (kk : ∀ (u : S) (H1 : Heap) (locs1 : List Loc), post u → va_P D vwCl (wo u) H1 → va_D A (wo u) → va_S A H0 H1 locs1 → W p l e R s m args below meth c H1 locs1 (cells + rm.cells) (slots + rm.slots) Q (F0 m (pc + 3) ls rest)) :
    W p l e R s m args below meth c H locs cells slots Q (F0 m pc ls st0) :=
  cc_v (va_runIN (As := As) (rest := rest) ⟨hx, hb, hml, hown, hg⟩ hM ⟨cw, hy, hg _ hin⟩ (cc_preS hP hK hD hT) rfl hn hz hst (lv_room hW) hdg hf) hS hD hA kk
end CInit
set_option maxHeartbeats 4000000 in
set_option maxRecDepth 100000 in
theorem c_X10_init (l : Launch) (dC : Nat → ClassId) (dI : Nat → Nat → Nat) (tys : List (ClassId × FieldType)) (ws : va_W) (sz a0 : Nat)  : Met l yX10_init (Cond.code yX10_init cX10_init 1 none :: gT) ({ frames := 1, cells := 0, slots := 0, locals := 12 }) (cP (dC, dI) tys ws sz [.ref a0]) (va_Qv (fun u : Unit => True) (cB (dC, dI) (fun u : Unit => ws) (va_A ws sz)) (va_A ws sz)) 0 0 (va_A ws sz) := by
  refine cc_of (y := yX10_init) (cc := cX10_init) (maxL := 1) (ret := none) (av := [.ref a0]) (mc := 0) (ms := 0) (Qa := fun A => va_Qv (fun u : Unit => True) (cB (dC, dI) (fun u : Unit => ws) A) A) (by decide) (Nat.le_of_ble_eq_true rfl) ?_
  intro p e s m below meth c A hx hb hr hml hown hg hlk hmn hP hK hD hT hS hA hsz ls hl
  have hown : s.vm.findClass RX10 = some m.cls := hown
  have hl : lv_has ls 1 [(0, .ref a0)] := hl
  refine lv_aload_n hx hb dX10_init_0 rfl (lv_at hl 0 rfl) ?_
  refine W.objInit hx hb hown (hg _ wM_X10_1) (hg _ wN_Object_init) (hg _ wK_objInit) rfl (by rw [hml]; exact hl.1) rfl dX10_init_1 (Nat.le_of_ble_eq_true rfl) (Nat.le_of_ble_eq_true rfl) ?_
  refine W.eq (g2 := F0 m 4 ls []) rfl ?_
  exact cr_v (wo := fun u : Unit => ws) () hx hb hr hlk hS hP hD trivial dX10_init_4
set_option maxHeartbeats 4000000 in
set_option maxRecDepth 100000 in
theorem c_X2_init_X9 (l : Launch) (dC : Nat → ClassId) (dI : Nat → Nat → Nat) (tys : List (ClassId × FieldType)) (ws : va_W) (sz a0 : Nat) (s0 : Int32) (k0 : Nat) (pre0 : ws[k0]? = some (a0, .inr (12, [.int 0, .null]))) : Met l yX2_init (Cond.code yX2_init cX2_init 2 none :: gT) ({ frames := 2, cells := 0, slots := 0, locals := 32 }) (cP (dC, dI) tys ws sz [.ref a0, .int s0]) (va_Qv (fun u : Unit => True) (cB (dC, dI) (fun u : Unit => ws.set k0 (a0, .inr (12, [.int s0, .null]))) (va_A ws sz)) (va_A ws sz)) 0 0 (va_A ws sz) := by
  refine cc_of (y := yX2_init) (cc := cX2_init) (maxL := 2) (ret := none) (av := [.ref a0, .int s0]) (mc := 0) (ms := 0) (Qa := fun A => va_Qv (fun u : Unit => True) (cB (dC, dI) (fun u : Unit => ws.set k0 (a0, .inr (12, [.int s0, .null]))) A) A) (by decide) (Nat.le_of_ble_eq_true rfl) ?_
  intro p e s m below meth c A hx hb hr hml hown hg hlk hmn hP hK hD hT hS hA hsz ls hl
  have hown : s.vm.findClass RX2 = some m.cls := hown
  have hl : lv_has ls 2 [(0, .ref a0), (1, .int s0)] := hl
  refine lv_aload_n hx hb dX2_init_0 rfl (lv_at hl 0 rfl) ?_
  refine cNN_v (n := 0) (rest := []) hx hb hml hown hg hT (c_X10_init l dC dI tys ws s.heap.size a0) (va_cnB 0 hg (gd_code wK_X10_init) rfl rfl rfl (hT.2.1 2 (by decide)) (hg _ wI_X10) (by decide +kernel) ⟨Nat.le_of_ble_eq_true rfl, Nat.le_of_ble_eq_true rfl⟩) rfl wN_X10_init hK hP hD hS hA rfl hl.1 rfl (Nat.le_of_ble_eq_true rfl) dX2_init_1 ⟨Nat.le_of_ble_eq_true rfl, Nat.le_of_ble_eq_true rfl⟩ (fun _ H locs _ hP hD hS => ?_)
  have hP : va_P (dC, dI) vwCl ws H := hP
  have hD : va_D A ws := hD
  refine lv_aload_n hx hb dX2_init_4 rfl (lv_at hl 0 rfl) ?_
  refine lv_iload_n hx hb dX2_init_5 rfl (lv_at hl 1 rfl) ?_
  refine va_put (D := (dC, dI)) (ci := 12) (v := .int s0) (ty := .int) (C := RX9) (T := TX9) (N := 2) hx hb hg inG9 tyX9 tyX9_ok nmX9 hown hK hP hD hS k0 pre0 rfl 0 (by decide) (hg _ wF_X2_7) (fun _ h9 => h9) rfl (by decide +kernel) rfl rfl (Nat.le_of_ble_eq_true rfl) dX2_init_6 (fun H locs hP hD hS => ?_)
  have hP : va_P (dC, dI) vwCl (ws.set k0 (a0, .inr (12, [.int s0, .null]))) H := hP
  have hD : va_D A (ws.set k0 (a0, .inr (12, [.int s0, .null]))) := hD
  exact cr_v (wo := fun u : Unit => ws.set k0 (a0, .inr (12, [.int s0, .null]))) () hx hb hr hlk hS hP hD trivial dX2_init_9
set_option maxHeartbeats 4000000 in
set_option maxRecDepth 100000 in
theorem c_X2_init_X3 (l : Launch) (dC : Nat → ClassId) (dI : Nat → Nat → Nat) (tys : List (ClassId × FieldType)) (ws : va_W) (sz a0 : Nat) (s0 : Int32) (k0 : Nat) (pre0 : ws[k0]? = some (a0, .inr (7, [.int 0, .null, .int 0]))) : Met l yX2_init (Cond.code yX2_init cX2_init 2 none :: gT) ({ frames := 2, cells := 0, slots := 0, locals := 32 }) (cP (dC, dI) tys ws sz [.ref a0, .int s0]) (va_Qv (fun u : Unit => True) (cB (dC, dI) (fun u : Unit => ws.set k0 (a0, .inr (7, [.int s0, .null, .int 0]))) (va_A ws sz)) (va_A ws sz)) 0 0 (va_A ws sz) := by
  refine cc_of (y := yX2_init) (cc := cX2_init) (maxL := 2) (ret := none) (av := [.ref a0, .int s0]) (mc := 0) (ms := 0) (Qa := fun A => va_Qv (fun u : Unit => True) (cB (dC, dI) (fun u : Unit => ws.set k0 (a0, .inr (7, [.int s0, .null, .int 0]))) A) A) (by decide) (Nat.le_of_ble_eq_true rfl) ?_
  intro p e s m below meth c A hx hb hr hml hown hg hlk hmn hP hK hD hT hS hA hsz ls hl
  have hown : s.vm.findClass RX2 = some m.cls := hown
  have hl : lv_has ls 2 [(0, .ref a0), (1, .int s0)] := hl
  refine lv_aload_n hx hb dX2_init_0 rfl (lv_at hl 0 rfl) ?_
  refine cNN_v (n := 0) (rest := []) hx hb hml hown hg hT (c_X10_init l dC dI tys ws s.heap.size a0) (va_cnB 0 hg (gd_code wK_X10_init) rfl rfl rfl (hT.2.1 2 (by decide)) (hg _ wI_X10) (by decide +kernel) ⟨Nat.le_of_ble_eq_true rfl, Nat.le_of_ble_eq_true rfl⟩) rfl wN_X10_init hK hP hD hS hA rfl hl.1 rfl (Nat.le_of_ble_eq_true rfl) dX2_init_1 ⟨Nat.le_of_ble_eq_true rfl, Nat.le_of_ble_eq_true rfl⟩ (fun _ H locs _ hP hD hS => ?_)
  have hP : va_P (dC, dI) vwCl ws H := hP
  have hD : va_D A ws := hD
  refine lv_aload_n hx hb dX2_init_4 rfl (lv_at hl 0 rfl) ?_
  refine lv_iload_n hx hb dX2_init_5 rfl (lv_at hl 1 rfl) ?_
  refine va_put (D := (dC, dI)) (ci := 7) (v := .int s0) (ty := .int) (C := RX3) (T := TX3) (N := 3) hx hb hg inG3 tyX3 tyX3_ok nmX3 hown hK hP hD hS k0 pre0 rfl 0 (by decide) (hg _ wF_X2_7) (fun _ h9 => h9) rfl (by decide +kernel) rfl rfl (Nat.le_of_ble_eq_true rfl) dX2_init_6 (fun H locs hP hD hS => ?_)
  have hP : va_P (dC, dI) vwCl (ws.set k0 (a0, .inr (7, [.int s0, .null, .int 0]))) H := hP
  have hD : va_D A (ws.set k0 (a0, .inr (7, [.int s0, .null, .int 0]))) := hD
  exact cr_v (wo := fun u : Unit => ws.set k0 (a0, .inr (7, [.int s0, .null, .int 0]))) () hx hb hr hlk hS hP hD trivial dX2_init_9
set_option maxHeartbeats 4000000 in
set_option maxRecDepth 100000 in
theorem c_X2_init_X0 (l : Launch) (dC : Nat → ClassId) (dI : Nat → Nat → Nat) (tys : List (ClassId × FieldType)) (ws : va_W) (sz a0 : Nat) (s0 : Int32) (k0 : Nat) (pre0 : ws[k0]? = some (a0, .inr (5, [.int 0, .int 0, .null]))) : Met l yX2_init (Cond.code yX2_init cX2_init 2 none :: gT) ({ frames := 2, cells := 0, slots := 0, locals := 32 }) (cP (dC, dI) tys ws sz [.ref a0, .int s0]) (va_Qv (fun u : Unit => True) (cB (dC, dI) (fun u : Unit => ws.set k0 (a0, .inr (5, [.int 0, .int s0, .null]))) (va_A ws sz)) (va_A ws sz)) 0 0 (va_A ws sz) := by
  refine cc_of (y := yX2_init) (cc := cX2_init) (maxL := 2) (ret := none) (av := [.ref a0, .int s0]) (mc := 0) (ms := 0) (Qa := fun A => va_Qv (fun u : Unit => True) (cB (dC, dI) (fun u : Unit => ws.set k0 (a0, .inr (5, [.int 0, .int s0, .null]))) A) A) (by decide) (Nat.le_of_ble_eq_true rfl) ?_
  intro p e s m below meth c A hx hb hr hml hown hg hlk hmn hP hK hD hT hS hA hsz ls hl
  have hown : s.vm.findClass RX2 = some m.cls := hown
  have hl : lv_has ls 2 [(0, .ref a0), (1, .int s0)] := hl
  refine lv_aload_n hx hb dX2_init_0 rfl (lv_at hl 0 rfl) ?_
  refine cNN_v (n := 0) (rest := []) hx hb hml hown hg hT (c_X10_init l dC dI tys ws s.heap.size a0) (va_cnB 0 hg (gd_code wK_X10_init) rfl rfl rfl (hT.2.1 2 (by decide)) (hg _ wI_X10) (by decide +kernel) ⟨Nat.le_of_ble_eq_true rfl, Nat.le_of_ble_eq_true rfl⟩) rfl wN_X10_init hK hP hD hS hA rfl hl.1 rfl (Nat.le_of_ble_eq_true rfl) dX2_init_1 ⟨Nat.le_of_ble_eq_true rfl, Nat.le_of_ble_eq_true rfl⟩ (fun _ H locs _ hP hD hS => ?_)
  have hP : va_P (dC, dI) vwCl ws H := hP
  have hD : va_D A ws := hD
  refine lv_aload_n hx hb dX2_init_4 rfl (lv_at hl 0 rfl) ?_
  refine lv_iload_n hx hb dX2_init_5 rfl (lv_at hl 1 rfl) ?_
  refine va_put (D := (dC, dI)) (ci := 5) (v := .int s0) (ty := .int) (C := RX0) (T := TX0) (N := 3) hx hb hg inG0 tyX0 tyX0_ok nmX0 hown hK hP hD hS k0 pre0 rfl 1 (by decide) (hg _ wF_X2_7) (fun _ h9 => h9) rfl (by decide +kernel) rfl rfl (Nat.le_of_ble_eq_true rfl) dX2_init_6 (fun H locs hP hD hS => ?_)
  have hP : va_P (dC, dI) vwCl (ws.set k0 (a0, .inr (5, [.int 0, .int s0, .null]))) H := hP
  have hD : va_D A (ws.set k0 (a0, .inr (5, [.int 0, .int s0, .null]))) := hD
  exact cr_v (wo := fun u : Unit => ws.set k0 (a0, .inr (5, [.int 0, .int s0, .null]))) () hx hb hr hlk hS hP hD trivial dX2_init_9
set_option maxHeartbeats 4000000 in
set_option maxRecDepth 100000 in
theorem c_X3_init_X3 (l : Launch) (dC : Nat → ClassId) (dI : Nat → Nat → Nat) (tys : List (ClassId × FieldType)) (ws : va_W) (sz a0 : Nat) (s0 : Int32) (k0 : Nat) (pre0 : ws[k0]? = some (a0, .inr (7, [.int 0, .null, .int 0]))) : Met l yX3_init (Cond.code yX3_init cX3_init 2 none :: gT) ({ frames := 3, cells := 0, slots := 0, locals := 53 }) (cP (dC, dI) tys ws sz [.ref a0, .int s0]) (va_Qv (fun u : Unit => True) (cB (dC, dI) (fun u : Unit => ws.set k0 (a0, .inr (7, [.int s0, .null, .int s0]))) (va_A ws sz)) (va_A ws sz)) 0 0 (va_A ws sz) := by
  refine cc_of (y := yX3_init) (cc := cX3_init) (maxL := 2) (ret := none) (av := [.ref a0, .int s0]) (mc := 0) (ms := 0) (Qa := fun A => va_Qv (fun u : Unit => True) (cB (dC, dI) (fun u : Unit => ws.set k0 (a0, .inr (7, [.int s0, .null, .int s0]))) A) A) (by decide) (Nat.le_of_ble_eq_true rfl) ?_
  intro p e s m below meth c A hx hb hr hml hown hg hlk hmn hP hK hD hT hS hA hsz ls hl
  have hown : s.vm.findClass RX3 = some m.cls := hown
  have hl : lv_has ls 2 [(0, .ref a0), (1, .int s0)] := hl
  refine lv_aload_n hx hb dX3_init_0 rfl (lv_at hl 0 rfl) ?_
  refine lv_iload_n hx hb dX3_init_1 rfl (lv_at hl 1 rfl) ?_
  refine cN_v (n := 1) (rest := []) hx hb hml hown hg hT (c_X2_init_X3 l dC dI tys ws s.heap.size a0 s0 k0 pre0) (cb_of hg wM_X3_3 wK_X2_init wI_X2 (by decide +kernel) ⟨Nat.le_of_ble_eq_true rfl, Nat.le_of_ble_eq_true rfl⟩) rfl wN_X2_init hK hP hD hS hA rfl hl.1 rfl (Nat.le_of_ble_eq_true rfl) dX3_init_2 ⟨Nat.le_of_ble_eq_true rfl, Nat.le_of_ble_eq_true rfl⟩ (fun _ H locs _ hP hD hS => ?_)
  have hP : va_P (dC, dI) vwCl (ws.set k0 (a0, .inr (7, [.int s0, .null, .int 0]))) H := hP
  have hD : va_D A (ws.set k0 (a0, .inr (7, [.int s0, .null, .int 0]))) := hD
  have he1 : (ws.set k0 (a0, .inr (7, [.int s0, .null, .int 0])))[k0]? = some (a0, .inr (7, [.int s0, .null, .int 0])) := lset_self pre0
  refine lv_aload_n hx hb dX3_init_5 rfl (lv_at hl 0 rfl) ?_
  refine lv_iload_n hx hb dX3_init_6 rfl (lv_at hl 1 rfl) ?_
  refine va_putF (D := (dC, dI)) (ci := 7) (v := .int s0) (ty := .int) (C := RX3) (T := TX3) (N := 3) hx hb hg inG3 tyX3 tyX3_ok nmX3 hown hK hP hD hS k0 he1 rfl 2 (by decide) (hg _ wF_X3_9) (fun _ h9 => h9) rfl hmn rfl (by decide +kernel) rfl rfl (Nat.le_of_ble_eq_true rfl) dX3_init_7 (fun H locs hP hD hS => ?_)
  rw [List.set_set] at hP hD
  have hP : va_P (dC, dI) vwCl (ws.set k0 (a0, .inr (7, [.int s0, .null, .int s0]))) H := hP
  have hD : va_D A (ws.set k0 (a0, .inr (7, [.int s0, .null, .int s0]))) := hD
  exact cr_v (wo := fun u : Unit => ws.set k0 (a0, .inr (7, [.int s0, .null, .int s0]))) () hx hb hr hlk hS hP hD trivial dX3_init_10
set_option maxHeartbeats 4000000 in
set_option maxRecDepth 100000 in
theorem c_X3_init_X0 (l : Launch) (dC : Nat → ClassId) (dI : Nat → Nat → Nat) (tys : List (ClassId × FieldType)) (ws : va_W) (sz a0 : Nat) (s0 : Int32) (k0 : Nat) (pre0 : ws[k0]? = some (a0, .inr (5, [.int 0, .int 0, .null]))) : Met l yX3_init (Cond.code yX3_init cX3_init 2 none :: gT) ({ frames := 3, cells := 0, slots := 0, locals := 53 }) (cP (dC, dI) tys ws sz [.ref a0, .int s0]) (va_Qv (fun u : Unit => True) (cB (dC, dI) (fun u : Unit => ws.set k0 (a0, .inr (5, [.int s0, .int s0, .null]))) (va_A ws sz)) (va_A ws sz)) 0 0 (va_A ws sz) := by
  refine cc_of (y := yX3_init) (cc := cX3_init) (maxL := 2) (ret := none) (av := [.ref a0, .int s0]) (mc := 0) (ms := 0) (Qa := fun A => va_Qv (fun u : Unit => True) (cB (dC, dI) (fun u : Unit => ws.set k0 (a0, .inr (5, [.int s0, .int s0, .null]))) A) A) (by decide) (Nat.le_of_ble_eq_true rfl) ?_
  intro p e s m below meth c A hx hb hr hml hown hg hlk hmn hP hK hD hT hS hA hsz ls hl
  have hown : s.vm.findClass RX3 = some m.cls := hown
  have hl : lv_has ls 2 [(0, .ref a0), (1, .int s0)] := hl
  refine lv_aload_n hx hb dX3_init_0 rfl (lv_at hl 0 rfl) ?_
  refine lv_iload_n hx hb dX3_init_1 rfl (lv_at hl 1 rfl) ?_
  refine cN_v (n := 1) (rest := []) hx hb hml hown hg hT (c_X2_init_X0 l dC dI tys ws s.heap.size a0 s0 k0 pre0) (cb_of hg wM_X3_3 wK_X2_init wI_X2 (by decide +kernel) ⟨Nat.le_of_ble_eq_true rfl, Nat.le_of_ble_eq_true rfl⟩) rfl wN_X2_init hK hP hD hS hA rfl hl.1 rfl (Nat.le_of_ble_eq_true rfl) dX3_init_2 ⟨Nat.le_of_ble_eq_true rfl, Nat.le_of_ble_eq_true rfl⟩ (fun _ H locs _ hP hD hS => ?_)
  have hP : va_P (dC, dI) vwCl (ws.set k0 (a0, .inr (5, [.int 0, .int s0, .null]))) H := hP
  have hD : va_D A (ws.set k0 (a0, .inr (5, [.int 0, .int s0, .null]))) := hD
  have he1 : (ws.set k0 (a0, .inr (5, [.int 0, .int s0, .null])))[k0]? = some (a0, .inr (5, [.int 0, .int s0, .null])) := lset_self pre0
  refine lv_aload_n hx hb dX3_init_5 rfl (lv_at hl 0 rfl) ?_
  refine lv_iload_n hx hb dX3_init_6 rfl (lv_at hl 1 rfl) ?_
  refine va_putF (D := (dC, dI)) (ci := 5) (v := .int s0) (ty := .int) (C := RX0) (T := TX0) (N := 3) hx hb hg inG0 tyX0 tyX0_ok nmX0 hown hK hP hD hS k0 he1 rfl 0 (by decide) (hg _ wF_X3_9) (fun _ h9 => h9) rfl hmn rfl (by decide +kernel) rfl rfl (Nat.le_of_ble_eq_true rfl) dX3_init_7 (fun H locs hP hD hS => ?_)
  rw [List.set_set] at hP hD
  have hP : va_P (dC, dI) vwCl (ws.set k0 (a0, .inr (5, [.int s0, .int s0, .null]))) H := hP
  have hD : va_D A (ws.set k0 (a0, .inr (5, [.int s0, .int s0, .null]))) := hD
  exact cr_v (wo := fun u : Unit => ws.set k0 (a0, .inr (5, [.int s0, .int s0, .null]))) () hx hb hr hlk hS hP hD trivial dX3_init_10
set_option maxHeartbeats 4000000 in
set_option maxRecDepth 100000 in
theorem c_X0_init (l : Launch) (dC : Nat → ClassId) (dI : Nat → Nat → Nat) (tys : List (ClassId × FieldType)) (ws : va_W) (sz a0 : Nat) (s0 : Int32) (k0 : Nat) (pre0 : ws[k0]? = some (a0, .inr (5, [.int 0, .int 0, .null]))) : Met l yX0_init (Cond.code yX0_init cX0_init 2 none :: gT) ({ frames := 4, cells := 0, slots := 0, locals := 74 }) (cP (dC, dI) tys ws sz [.ref a0, .int s0]) (va_Qv (fun u : Unit => True) (cB (dC, dI) (fun u : Unit => ws.set k0 (a0, .inr (5, [.int s0, .int s0, .null]))) (va_A ws sz)) (va_A ws sz)) 0 0 (va_A ws sz) := by
  refine cc_of (y := yX0_init) (cc := cX0_init) (maxL := 2) (ret := none) (av := [.ref a0, .int s0]) (mc := 0) (ms := 0) (Qa := fun A => va_Qv (fun u : Unit => True) (cB (dC, dI) (fun u : Unit => ws.set k0 (a0, .inr (5, [.int s0, .int s0, .null]))) A) A) (by decide) (Nat.le_of_ble_eq_true rfl) ?_
  intro p e s m below meth c A hx hb hr hml hown hg hlk hmn hP hK hD hT hS hA hsz ls hl
  have hown : s.vm.findClass RX0 = some m.cls := hown
  have hl : lv_has ls 2 [(0, .ref a0), (1, .int s0)] := hl
  refine lv_aload_n hx hb dX0_init_0 rfl (lv_at hl 0 rfl) ?_
  refine lv_iload_n hx hb dX0_init_1 rfl (lv_at hl 1 rfl) ?_
  refine cN_v (n := 1) (rest := []) hx hb hml hown hg hT (c_X3_init_X0 l dC dI tys ws s.heap.size a0 s0 k0 pre0) (cb_of hg wM_X0_1 wK_X3_init wI_X3 (by decide +kernel) ⟨Nat.le_of_ble_eq_true rfl, Nat.le_of_ble_eq_true rfl⟩) rfl wN_X3_init hK hP hD hS hA rfl hl.1 rfl (Nat.le_of_ble_eq_true rfl) dX0_init_2 ⟨Nat.le_of_ble_eq_true rfl, Nat.le_of_ble_eq_true rfl⟩ (fun _ H locs _ hP hD hS => ?_)
  have hP : va_P (dC, dI) vwCl (ws.set k0 (a0, .inr (5, [.int s0, .int s0, .null]))) H := hP
  have hD : va_D A (ws.set k0 (a0, .inr (5, [.int s0, .int s0, .null]))) := hD
  exact cr_v (wo := fun u : Unit => ws.set k0 (a0, .inr (5, [.int s0, .int s0, .null]))) () hx hb hr hlk hS hP hD trivial dX0_init_5
set_option maxHeartbeats 4000000 in
set_option maxRecDepth 100000 in
theorem c_X9_init (l : Launch) (dC : Nat → ClassId) (dI : Nat → Nat → Nat) (tys : List (ClassId × FieldType)) (ws : va_W) (sz a0 : Nat) (s0 : Int32) (k0 : Nat) (pre0 : ws[k0]? = some (a0, .inr (12, [.int 0, .null]))) : Met l yX9_init (Cond.code yX9_init cX9_init 2 none :: gT) ({ frames := 3, cells := 0, slots := 0, locals := 53 }) (cP (dC, dI) tys ws sz [.ref a0, .int s0]) (va_Qv (fun u : Unit => True) (cB (dC, dI) (fun u : Unit => ws.set k0 (a0, .inr (12, [.int s0, .null]))) (va_A ws sz)) (va_A ws sz)) 0 0 (va_A ws sz) := by
  refine cc_of (y := yX9_init) (cc := cX9_init) (maxL := 2) (ret := none) (av := [.ref a0, .int s0]) (mc := 0) (ms := 0) (Qa := fun A => va_Qv (fun u : Unit => True) (cB (dC, dI) (fun u : Unit => ws.set k0 (a0, .inr (12, [.int s0, .null]))) A) A) (by decide) (Nat.le_of_ble_eq_true rfl) ?_
  intro p e s m below meth c A hx hb hr hml hown hg hlk hmn hP hK hD hT hS hA hsz ls hl
  have hown : s.vm.findClass RX9 = some m.cls := hown
  have hl : lv_has ls 2 [(0, .ref a0), (1, .int s0)] := hl
  refine lv_aload_n hx hb dX9_init_0 rfl (lv_at hl 0 rfl) ?_
  refine lv_iload_n hx hb dX9_init_1 rfl (lv_at hl 1 rfl) ?_
  refine cN_v (n := 1) (rest := []) hx hb hml hown hg hT (c_X2_init_X9 l dC dI tys ws s.heap.size a0 s0 k0 pre0) (cb_of hg wM_X9_3 wK_X2_init wI_X2 (by decide +kernel) ⟨Nat.le_of_ble_eq_true rfl, Nat.le_of_ble_eq_true rfl⟩) rfl wN_X2_init hK hP hD hS hA rfl hl.1 rfl (Nat.le_of_ble_eq_true rfl) dX9_init_2 ⟨Nat.le_of_ble_eq_true rfl, Nat.le_of_ble_eq_true rfl⟩ (fun _ H locs _ hP hD hS => ?_)
  have hP : va_P (dC, dI) vwCl (ws.set k0 (a0, .inr (12, [.int s0, .null]))) H := hP
  have hD : va_D A (ws.set k0 (a0, .inr (12, [.int s0, .null]))) := hD
  exact cr_v (wo := fun u : Unit => ws.set k0 (a0, .inr (12, [.int s0, .null]))) () hx hb hr hlk hS hP hD trivial dX9_init_5
set_option maxHeartbeats 4000000 in
set_option maxRecDepth 100000 in
theorem c_X4_init (l : Launch) (dC : Nat → ClassId) (dI : Nat → Nat → Nat) (tys : List (ClassId × FieldType)) (ws : va_W) (sz a0 : Nat) (s0 : Int32) (k0 : Nat) (pre0 : ws[k0]? = some (a0, .inr (8, [.int 0]))) : Met l yX4_init (Cond.code yX4_init cX4_init 2 none :: gT) ({ frames := 2, cells := 0, slots := 0, locals := 32 }) (cP (dC, dI) tys ws sz [.ref a0, .int s0]) (va_Qv (fun u : Unit => True) (cB (dC, dI) (fun u : Unit => ws.set k0 (a0, .inr (8, [.int s0]))) (va_A ws sz)) (va_A ws sz)) 0 0 (va_A ws sz) := by
  refine cc_of (y := yX4_init) (cc := cX4_init) (maxL := 2) (ret := none) (av := [.ref a0, .int s0]) (mc := 0) (ms := 0) (Qa := fun A => va_Qv (fun u : Unit => True) (cB (dC, dI) (fun u : Unit => ws.set k0 (a0, .inr (8, [.int s0]))) A) A) (by decide) (Nat.le_of_ble_eq_true rfl) ?_
  intro p e s m below meth c A hx hb hr hml hown hg hlk hmn hP hK hD hT hS hA hsz ls hl
  have hown : s.vm.findClass RX4 = some m.cls := hown
  have hl : lv_has ls 2 [(0, .ref a0), (1, .int s0)] := hl
  refine lv_aload_n hx hb dX4_init_0 rfl (lv_at hl 0 rfl) ?_
  refine cNN_v (n := 0) (rest := []) hx hb hml hown hg hT (c_X10_init l dC dI tys ws s.heap.size a0) (va_cnB 0 hg (gd_code wK_X10_init) rfl rfl rfl (hT.2.1 3 (by decide)) (hg _ wI_X10) (by decide +kernel) ⟨Nat.le_of_ble_eq_true rfl, Nat.le_of_ble_eq_true rfl⟩) rfl wN_X10_init hK hP hD hS hA rfl hl.1 rfl (Nat.le_of_ble_eq_true rfl) dX4_init_1 ⟨Nat.le_of_ble_eq_true rfl, Nat.le_of_ble_eq_true rfl⟩ (fun _ H locs _ hP hD hS => ?_)
  have hP : va_P (dC, dI) vwCl ws H := hP
  have hD : va_D A ws := hD
  refine lv_aload_n hx hb dX4_init_4 rfl (lv_at hl 0 rfl) ?_
  refine lv_iload_n hx hb dX4_init_5 rfl (lv_at hl 1 rfl) ?_
  refine va_putF (D := (dC, dI)) (ci := 8) (v := .int s0) (ty := .int) (C := RX4) (T := TX4) (N := 1) hx hb hg inG4 tyX4 tyX4_ok nmX4 hown hK hP hD hS k0 pre0 rfl 0 (by decide) (hg _ wF_X4_9) (fun _ h9 => h9) rfl hmn rfl (by decide +kernel) rfl rfl (Nat.le_of_ble_eq_true rfl) dX4_init_6 (fun H locs hP hD hS => ?_)
  have hP : va_P (dC, dI) vwCl (ws.set k0 (a0, .inr (8, [.int s0]))) H := hP
  have hD : va_D A (ws.set k0 (a0, .inr (8, [.int s0]))) := hD
  exact cr_v (wo := fun u : Unit => ws.set k0 (a0, .inr (8, [.int s0]))) () hx hb hr hlk hS hP hD trivial dX4_init_9
set_option maxHeartbeats 4000000 in
set_option maxRecDepth 100000 in
theorem c_X5_init (l : Launch) (dC : Nat → ClassId) (dI : Nat → Nat → Nat) (tys : List (ClassId × FieldType)) (ws : va_W) (sz a0 : Nat) (s0 : Int32) (k0 : Nat) (pre0 : ws[k0]? = some (a0, .inr (9, [.int 0]))) : Met l yX5_init (Cond.code yX5_init cX5_init 2 none :: gT) ({ frames := 2, cells := 0, slots := 0, locals := 32 }) (cP (dC, dI) tys ws sz [.ref a0, .int s0]) (va_Qv (fun u : Unit => True) (cB (dC, dI) (fun u : Unit => ws.set k0 (a0, .inr (9, [.int s0]))) (va_A ws sz)) (va_A ws sz)) 0 0 (va_A ws sz) := by
  refine cc_of (y := yX5_init) (cc := cX5_init) (maxL := 2) (ret := none) (av := [.ref a0, .int s0]) (mc := 0) (ms := 0) (Qa := fun A => va_Qv (fun u : Unit => True) (cB (dC, dI) (fun u : Unit => ws.set k0 (a0, .inr (9, [.int s0]))) A) A) (by decide) (Nat.le_of_ble_eq_true rfl) ?_
  intro p e s m below meth c A hx hb hr hml hown hg hlk hmn hP hK hD hT hS hA hsz ls hl
  have hown : s.vm.findClass RX5 = some m.cls := hown
  have hl : lv_has ls 2 [(0, .ref a0), (1, .int s0)] := hl
  refine lv_aload_n hx hb dX5_init_0 rfl (lv_at hl 0 rfl) ?_
  refine cNN_v (n := 0) (rest := []) hx hb hml hown hg hT (c_X10_init l dC dI tys ws s.heap.size a0) (va_cnB 0 hg (gd_code wK_X10_init) rfl rfl rfl (hT.2.1 4 (by decide)) (hg _ wI_X10) (by decide +kernel) ⟨Nat.le_of_ble_eq_true rfl, Nat.le_of_ble_eq_true rfl⟩) rfl wN_X10_init hK hP hD hS hA rfl hl.1 rfl (Nat.le_of_ble_eq_true rfl) dX5_init_1 ⟨Nat.le_of_ble_eq_true rfl, Nat.le_of_ble_eq_true rfl⟩ (fun _ H locs _ hP hD hS => ?_)
  have hP : va_P (dC, dI) vwCl ws H := hP
  have hD : va_D A ws := hD
  refine lv_aload_n hx hb dX5_init_4 rfl (lv_at hl 0 rfl) ?_
  refine lv_iload_n hx hb dX5_init_5 rfl (lv_at hl 1 rfl) ?_
  refine va_putF (D := (dC, dI)) (ci := 9) (v := .int s0) (ty := .int) (C := RX5) (T := TX5) (N := 1) hx hb hg inG5 tyX5 tyX5_ok nmX5 hown hK hP hD hS k0 pre0 rfl 0 (by decide) (hg _ wF_X5_9) (fun _ h9 => h9) rfl hmn rfl (by decide +kernel) rfl rfl (Nat.le_of_ble_eq_true rfl) dX5_init_6 (fun H locs hP hD hS => ?_)
  have hP : va_P (dC, dI) vwCl (ws.set k0 (a0, .inr (9, [.int s0]))) H := hP
  have hD : va_D A (ws.set k0 (a0, .inr (9, [.int s0]))) := hD
  exact cr_v (wo := fun u : Unit => ws.set k0 (a0, .inr (9, [.int s0]))) () hx hb hr hlk hS hP hD trivial dX5_init_9
set_option maxHeartbeats 4000000 in
set_option maxRecDepth 100000 in
theorem c_X7_init (l : Launch) (dC : Nat → ClassId) (dI : Nat → Nat → Nat) (tys : List (ClassId × FieldType)) (ws : va_W) (sz a0 : Nat) (v0 n0 : Int32) (N : Nat) (tJ : ClassId) (kt : Nat) (ht : tys[kt]? = some (tJ, .long)) (h0 : ¬ n0 < 0) (hN : n0.toNatClampNeg = N) (hN2 : N < 100) (k0 : Nat) (pre0 : ws[k0]? = some (a0, .inr (10, [.int 0, .null]))) : Met l yX7_init (Cond.code yX7_init cX7_init 3 none :: gT) ({ frames := 2, cells := 1, slots := N, locals := 32 }) (cP (dC, dI) tys ws sz [.ref a0, .int v0, .int n0]) (va_Qv (fun u : Nat => True) (cB (dC, dI) (fun u : Nat => (ws.set k0 (a0, .inr (10, [.int v0, .ref u])) ++ [(u, .inl (tJ, N, .inr (.inl (fun _ => (0 : Int64)))))] : va_W)) (va_A ws sz)) (va_A ws sz)) 1 N (va_A ws sz) := by
  refine cc_of (y := yX7_init) (cc := cX7_init) (maxL := 3) (ret := none) (av := [.ref a0, .int v0, .int n0]) (mc := 1) (ms := N) (Qa := fun A => va_Qv (fun u : Nat => True) (cB (dC, dI) (fun u : Nat => (ws.set k0 (a0, .inr (10, [.int v0, .ref u])) ++ [(u, .inl (tJ, N, .inr (.inl (fun _ => (0 : Int64)))))] : va_W)) A) A) (by decide) (Nat.le_of_ble_eq_true rfl) ?_
  intro p e s m below meth c A hx hb hr hml hown hg hlk hmn hP hK hD hT hS hA hsz ls hl
  have hown : s.vm.findClass RX7 = some m.cls := hown
  have hl : lv_has ls 3 [(0, .ref a0), (1, .int v0), (2, .int n0)] := hl
  refine lv_aload_n hx hb dX7_init_0 rfl (lv_at hl 0 rfl) ?_
  refine cNN_v (n := 0) (rest := []) hx hb hml hown hg hT (c_X10_init l dC dI tys ws s.heap.size a0) (va_cnB 0 hg (gd_code wK_X10_init) rfl rfl rfl (hT.2.1 0 (by decide)) (hg _ wI_X10) (by decide +kernel) ⟨Nat.le_of_ble_eq_true rfl, Nat.le_of_ble_eq_true rfl⟩) rfl wN_X10_init hK hP hD hS hA rfl hl.1 rfl (Nat.le_of_ble_eq_true rfl) dX7_init_1 ⟨Nat.le_of_ble_eq_true rfl, Nat.le_of_ble_eq_true rfl⟩ (fun _ H locs _ hP hD hS => ?_)
  have hP : va_P (dC, dI) vwCl ws H := hP
  have hD : va_D A ws := hD
  refine lv_aload_n hx hb dX7_init_4 rfl (lv_at hl 0 rfl) ?_
  refine lv_iload_n hx hb dX7_init_5 rfl (lv_at hl 1 rfl) ?_
  refine va_putF (D := (dC, dI)) (ci := 10) (v := .int v0) (ty := .int) (C := RX7) (T := TX7) (N := 2) hx hb hg inG7 tyX7 tyX7_ok nmX7 hown hK hP hD hS k0 pre0 rfl 0 (by decide) (hg _ wF_X7_9) (fun _ h9 => h9) rfl hmn rfl (by decide +kernel) rfl rfl (Nat.le_of_ble_eq_true rfl) dX7_init_6 (fun H locs hP hD hS => ?_)
  have hP : va_P (dC, dI) vwCl (ws.set k0 (a0, .inr (10, [.int v0, .null]))) H := hP
  have hD : va_D A (ws.set k0 (a0, .inr (10, [.int v0, .null]))) := hD
  refine lv_aload_n hx hb dX7_init_9 rfl (lv_at hl 0 rfl) ?_
  refine lv_iload_n hx hb dX7_init_10 rfl (lv_at hl 2 rfl) ?_
  refine va_newa (atype := .long) (ty := .long) (a0 := (N, .inr (.inl (fun _ => (0 : Int64))))) hx hb (hg _ wA_long) rfl hK hP hD hS hA (fun _ => rfl) h0 hN (by show N * 8 ≤ 536870912; omega) (by show 0 + 1 ≤ 1; omega) (by show 0 + N ≤ N; omega) dX7_init_11 (fun y cA H hK2 hP hD hS => ?_)
  have hcA : cA = tJ := ck_uni hK2 kt ht (fun _ h9 => by cases h9)
  subst hcA
  refine W.widen (k := 1) (n := N) (by show 0 + 0 + 1 ≤ 1; omega) (by show 0 + 0 + N ≤ N; omega) ?_
  have hlt : k0 < (ws.set k0 (a0, .inr (10, [.int v0, .null]))).length := by rw [List.length_set]; exact (List.getElem?_eq_some_iff.mp pre0).1
  have he1 : (ws.set k0 (a0, .inr (10, [.int v0, .null])) ++ [(y, .inl (cA, N, .inr (.inl (fun _ => (0 : Int64)))))])[k0]? = some (a0, .inr (10, [.int v0, .null])) := by rw [List.getElem?_append_left hlt]; exact lset_self pre0
  refine va_putF (D := (dC, dI)) (ci := 10) (v := .ref y) (ty := (.array .long)) (C := RX7) (T := TX7) (N := 2) hx hb hg inG7 tyX7 tyX7_ok nmX7 hown hK hP hD hS k0 he1 rfl 1 (by decide) (hg _ wF_X7_15) (fun _ h9 => h9) rfl hmn rfl (by decide +kernel) rfl rfl (Nat.le_of_ble_eq_true rfl) dX7_init_13 (fun H locs hP hD hS => ?_)
  rw [List.set_append_left _ _ hlt, List.set_set] at hP hD
  have hP : va_P (dC, dI) vwCl ((ws.set k0 (a0, .inr (10, [.int v0, .ref y])) ++ [(y, .inl (cA, N, .inr (.inl (fun _ => (0 : Int64)))))] : va_W)) H := hP
  have hD : va_D A ((ws.set k0 (a0, .inr (10, [.int v0, .ref y])) ++ [(y, .inl (cA, N, .inr (.inl (fun _ => (0 : Int64)))))] : va_W)) := hD
  exact cr_v (post := fun _ => True) (wo := fun u : Nat => (ws.set k0 (a0, .inr (10, [.int v0, .ref u])) ++ [(u, .inl (cA, N, .inr (.inl (fun _ => (0 : Int64)))))] : va_W)) y hx hb hr hlk hS hP hD trivial dX7_init_16
set_option maxHeartbeats 4000000 in
set_option maxRecDepth 100000 in
theorem c_X8_init (l : Launch) (dC : Nat → ClassId) (dI : Nat → Nat → Nat) (tys : List (ClassId × FieldType)) (ws : va_W) (sz a0 : Nat) (v0 w0 n0 : Int32) (N : Nat) (tT : ClassId) (kt : Nat) (ht : tys[kt]? = some (tT, .object RX10)) (h0 : ¬ n0 < 0) (hN : n0.toNatClampNeg = N) (hN2 : N < 100) (k0 : Nat) (pre0 : ws[k0]? = some (a0, .inr (11, [.int 0, .int 0, .null]))) : Met l yX8_init (Cond.code yX8_init cX8_init 4 none :: gT) ({ frames := 2, cells := 1, slots := N, locals := 32 }) (cP (dC, dI) tys ws sz [.ref a0, .int v0, .int w0, .int n0]) (va_Qv (fun u : Nat => True) (cB (dC, dI) (fun u : Nat => (ws.set k0 (a0, .inr (11, [.int v0, .int w0, .ref u])) ++ [(u, .inl (tT, N, .inr (.inr (.inr (.inr (fun _ => (none : Option Nat)))))))] : va_W)) (va_A ws sz)) (va_A ws sz)) 1 N (va_A ws sz) := by
  refine cc_of (y := yX8_init) (cc := cX8_init) (maxL := 4) (ret := none) (av := [.ref a0, .int v0, .int w0, .int n0]) (mc := 1) (ms := N) (Qa := fun A => va_Qv (fun u : Nat => True) (cB (dC, dI) (fun u : Nat => (ws.set k0 (a0, .inr (11, [.int v0, .int w0, .ref u])) ++ [(u, .inl (tT, N, .inr (.inr (.inr (.inr (fun _ => (none : Option Nat)))))))] : va_W)) A) A) (by decide) (Nat.le_of_ble_eq_true rfl) ?_
  intro p e s m below meth c A hx hb hr hml hown hg hlk hmn hP hK hD hT hS hA hsz ls hl
  have hown : s.vm.findClass RX8 = some m.cls := hown
  have hl : lv_has ls 4 [(0, .ref a0), (1, .int v0), (2, .int w0), (3, .int n0)] := hl
  refine lv_aload_n hx hb dX8_init_0 rfl (lv_at hl 0 rfl) ?_
  refine cNN_v (n := 0) (rest := []) hx hb hml hown hg hT (c_X10_init l dC dI tys ws s.heap.size a0) (va_cnB 0 hg (gd_code wK_X10_init) rfl rfl rfl (hT.2.1 1 (by decide)) (hg _ wI_X10) (by decide +kernel) ⟨Nat.le_of_ble_eq_true rfl, Nat.le_of_ble_eq_true rfl⟩) rfl wN_X10_init hK hP hD hS hA rfl hl.1 rfl (Nat.le_of_ble_eq_true rfl) dX8_init_1 ⟨Nat.le_of_ble_eq_true rfl, Nat.le_of_ble_eq_true rfl⟩ (fun _ H locs _ hP hD hS => ?_)
  have hP : va_P (dC, dI) vwCl ws H := hP
  have hD : va_D A ws := hD
  refine lv_aload_n hx hb dX8_init_4 rfl (lv_at hl 0 rfl) ?_
  refine lv_iload_n hx hb dX8_init_5 rfl (lv_at hl 1 rfl) ?_
  refine va_putF (D := (dC, dI)) (ci := 11) (v := .int v0) (ty := .int) (C := RX8) (T := TX8) (N := 3) hx hb hg inG8 tyX8 tyX8_ok nmX8 hown hK hP hD hS k0 pre0 rfl 0 (by decide) (hg _ wF_X8_9) (fun _ h9 => h9) rfl hmn rfl (by decide +kernel) rfl rfl (Nat.le_of_ble_eq_true rfl) dX8_init_6 (fun H locs hP hD hS => ?_)
  have hP : va_P (dC, dI) vwCl (ws.set k0 (a0, .inr (11, [.int v0, .int 0, .null]))) H := hP
  have hD : va_D A (ws.set k0 (a0, .inr (11, [.int v0, .int 0, .null]))) := hD
  have he0 : (ws.set k0 (a0, .inr (11, [.int v0, .int 0, .null])))[k0]? = some (a0, .inr (11, [.int v0, .int 0, .null])) := lset_self pre0
  refine lv_aload_n hx hb dX8_init_9 rfl (lv_at hl 0 rfl) ?_
  refine lv_iload_n hx hb dX8_init_10 rfl (lv_at hl 2 rfl) ?_
  refine va_putF (D := (dC, dI)) (ci := 11) (v := .int w0) (ty := .int) (C := RX8) (T := TX8) (N := 3) hx hb hg inG8 tyX8 tyX8_ok nmX8 hown hK hP hD hS k0 he0 rfl 1 (by decide) (hg _ wF_X8_15) (fun _ h9 => h9) rfl hmn rfl (by decide +kernel) rfl rfl (Nat.le_of_ble_eq_true rfl) dX8_init_11 (fun H locs hP hD hS => ?_)
  rw [List.set_set] at hP hD
  have hP : va_P (dC, dI) vwCl (ws.set k0 (a0, .inr (11, [.int v0, .int w0, .null]))) H := hP
  have hD : va_D A (ws.set k0 (a0, .inr (11, [.int v0, .int w0, .null]))) := hD
  refine lv_aload_n hx hb dX8_init_14 rfl (lv_at hl 0 rfl) ?_
  refine lv_iload_n hx hb dX8_init_15 rfl (lv_at hl 3 rfl) ?_
  refine va_newq (C := RX10) hx hb hown (hg _ wC_X8_4) hT.2.2.2.1 hK hP hD hS hA h0 hN (by omega) (by show 0 + 1 ≤ 1; omega) (by show 0 + N ≤ N; omega) dX8_init_16 (fun y cA H hK2 hP hD hS => ?_)
  have hcA : cA = tT := ck_uniO hK2 kt ht
  subst hcA
  refine W.widen (k := 1) (n := N) (by show 0 + 0 + 1 ≤ 1; omega) (by show 0 + 0 + N ≤ N; omega) ?_
  have hlt : k0 < (ws.set k0 (a0, .inr (11, [.int v0, .int w0, .null]))).length := by rw [List.length_set]; exact (List.getElem?_eq_some_iff.mp pre0).1
  have he1 : (ws.set k0 (a0, .inr (11, [.int v0, .int w0, .null])) ++ [(y, .inl (cA, N, .inr (.inr (.inr (.inr (fun _ => (none : Option Nat)))))))])[k0]? = some (a0, .inr (11, [.int v0, .int w0, .null])) := by rw [List.getElem?_append_left hlt]; exact lset_self pre0
  refine va_putF (D := (dC, dI)) (ci := 11) (v := .ref y) (ty := (.array (.object "FaultMill$Thing"))) (C := RX8) (T := TX8) (N := 3) hx hb hg inG8 tyX8 tyX8_ok nmX8 hown hK hP hD hS k0 he1 rfl 2 (by decide) (hg _ wF_X8_18) (fun _ h9 => h9) rfl hmn rfl (by decide +kernel) rfl rfl (Nat.le_of_ble_eq_true rfl) dX8_init_19 (fun H locs hP hD hS => ?_)
  rw [List.set_append_left _ _ hlt, List.set_set] at hP hD
  have hP : va_P (dC, dI) vwCl ((ws.set k0 (a0, .inr (11, [.int v0, .int w0, .ref y])) ++ [(y, .inl (cA, N, .inr (.inr (.inr (.inr (fun _ => (none : Option Nat)))))))] : va_W)) H := hP
  have hD : va_D A ((ws.set k0 (a0, .inr (11, [.int v0, .int w0, .ref y])) ++ [(y, .inl (cA, N, .inr (.inr (.inr (.inr (fun _ => (none : Option Nat)))))))] : va_W)) := hD
  exact cr_v (post := fun _ => True) (wo := fun u : Nat => (ws.set k0 (a0, .inr (11, [.int v0, .int w0, .ref u])) ++ [(u, .inl (cA, N, .inr (.inr (.inr (.inr (fun _ => (none : Option Nat)))))))] : va_W)) y hx hb hr hlk hS hP hD trivial dX8_init_22

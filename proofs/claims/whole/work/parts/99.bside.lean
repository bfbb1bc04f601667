/-! ===== the law: its three worlds ===== -/
section Spl
variable {D : va_G} {cl : List vw_C} {w v : va_W} {H : Heap} {A : Nat → Prop}
theorem sp_r {k : Nat} {q : Nat × va_E} (h : v[k]? = some q) : (w ++ v)[w.length + k]? = some q := by
  rw [List.getElem?_append_right (by omega), Nat.add_sub_cancel_left]; exact h
theorem sp_l {k : Nat} {q : Nat × va_E} (h : w[k]? = some q) : (w ++ v)[k]? = some q := by
  rw [List.getElem?_append_left (List.getElem?_eq_some_iff.mp h).1]; exact h
theorem spl_P (h : va_P D cl (w ++ v) H) : va_P D cl w H ∧ va_P D cl v H := ⟨fun k q hk => h k q (sp_l hk), fun k q hk => h _ q (sp_r hk)⟩
theorem spl_D (h : va_D A (w ++ v)) : va_D A w ∧ va_D A v ∧ dj w v := by
  refine ⟨⟨fun i j p q hi hj e => h.1 i j p q (sp_l hi) (sp_l hj) e, fun k q hk => h.2 k q (sp_l hk)⟩, ⟨fun i j p q hi hj e => ?_, fun k q hk => h.2 _ q (sp_r hk)⟩, fun i j p q hi hj e => ?_⟩
  · have := h.1 _ _ p q (sp_r hi) (sp_r hj) e
    omega
  · have h1 := h.1 _ _ p q (sp_l hi) (sp_r hj) e
    have h2 := (List.getElem?_eq_some_iff.mp hi).1
    omega
end Spl
/-- the mill's state; the reference's: rows, places, kept, inside, told, wrong, two -/
abbrev lMt : Type := (Nat → Option Nat) × Int64 × Int32 × Int32 × cZ × cQ
abbrev lRt : Type := rY × (Nat → Int32) × (Nat → Int32) × rI × (Nat → Int32) × Int32 × Int32
abbrev lWo (ty : Nat → ClassId) (qo : Nat) (o : Nat → Int64) : va_W := [(qo, .inl (ty 2, 1, .inr (.inl o)))]
abbrev lWm (g : Nat → Nat) (ty : Nat → ClassId) (M : lMt) : va_W := cW g ty M.1 M.2.1 M.2.2.1 M.2.2.2.1 M.2.2.2.2.1 M.2.2.2.2.2
abbrev lWr (g : Nat → Nat) (ty : Nat → ClassId) (ac : Int64) (B : lRt) : va_W := rW g ty B.1 B.2.1 B.2.2.1 0 B.2.2.2.1 B.2.2.2.2.1 ac B.2.2.2.2.2.1 B.2.2.2.2.2.2
def lV (D : va_G) (g : Nat → Nat) (ty : Nat → ClassId) (qo : Nat) (A : Nat → Prop) (H : Heap) (M : lMt) (ac : Int64) (B : lRt) (o : Nat → Int64) : Prop :=
  (va_P D vwCl (lWo ty qo o) H ∧ va_P D vwCl (lWm g ty M) H ∧ va_P D vwCl (lWr g ty ac B) H) ∧ (va_D A (lWo ty qo o) ∧ va_D A (lWm g ty M) ∧ va_D A (lWr g ty ac B)) ∧ dj (lWo ty qo o) (lWm g ty M) ∧ dj (lWo ty qo o) (lWr g ty ac B) ∧ dj (lWm g ty M) (lWr g ty ac B)
section LV
variable {D : va_G} {g : Nat → Nat} {ty : Nat → ClassId} {qo : Nat} {A : Nat → Prop} {H H1 : Heap} {M M' : lMt} {ac ac' : Int64} {B B' : lRt} {o o' : Nat → Int64}
theorem lV_L (h : lV D g ty qo A H M ac B o) : va_P D vwCl (lW g ty qo o M) H ∧ va_D A (lW g ty qo o M) := by
  obtain ⟨⟨h1, h2, -⟩, ⟨d1, d2, -⟩, j1, -, -⟩ := h
  exact ⟨h1.app h2, app_D d1 d2 j1⟩
theorem lV_m (h : lV D g ty qo A H M ac B o) (hF : ∀ q, va_A (lW g ty qo o M) H.size q → A q) (hP : va_P D vwCl (lW g ty qo o' M') H1) (hD : va_D (va_A (lW g ty qo o M) H.size) (lW g ty qo o' M')) (hk : ∀ q : Nat, q < H.size → ¬ va_A (lW g ty qo o M) H.size q → H1[q]? = H[q]?) : lV D g ty qo A H1 M' ac B o' := by
  obtain ⟨⟨h1, h2, h3⟩, ⟨d1, d2, d3⟩, j1, j2, j3⟩ := h
  have j : dj (lW g ty qo o M) (lWr g ty ac B) := dj_cons j2 j3
  obtain ⟨p1, p2⟩ := cons_P hP
  obtain ⟨e1, e2, e3⟩ := cons_D (fr_D hD hF)
  obtain ⟨k1, k2⟩ := dj_cons' (fr_dj h3 j hD)
  exact ⟨⟨p1, p2, fr_keep h3 j hk⟩, ⟨e1, e2, d3⟩, e3, k1, k2⟩
theorem lV_r (h : lV D g ty qo A H M ac B o) (hF : ∀ q, va_A (lWr g ty ac B) H.size q → A q) (hP : va_P D vwCl (lWr g ty ac' B') H1) (hD : va_D (va_A (lWr g ty ac B) H.size) (lWr g ty ac' B')) (hk : ∀ q : Nat, q < H.size → ¬ va_A (lWr g ty ac B) H.size q → H1[q]? = H[q]?) : lV D g ty qo A H1 M ac' B' o := by
  obtain ⟨⟨h1, h2, h3⟩, ⟨d1, d2, d3⟩, j1, j2, j3⟩ := h
  exact ⟨⟨fr_keep h1 j2.sy hk, fr_keep h2 j3.sy hk, hP⟩, ⟨d1, d2, fr_D hD hF⟩, j1, (fr_dj h1 j2.sy hD).sy, (fr_dj h2 j3.sy hD).sy⟩
theorem lV_n (h : lV D g ty qo A H M ac B o) (hF : ∀ q, va_A (lWm g ty M) H.size q → A q) (hP : va_P D vwCl (lWm g ty M') H1) (hD : va_D (va_A (lWm g ty M) H.size) (lWm g ty M')) (hk : ∀ q : Nat, q < H.size → ¬ va_A (lWm g ty M) H.size q → H1[q]? = H[q]?) : lV D g ty qo A H1 M' ac B o := by
  obtain ⟨⟨h1, h2, h3⟩, ⟨d1, d2, d3⟩, j1, j2, j3⟩ := h
  exact ⟨⟨fr_keep h1 j1.sy hk, hP, fr_keep h3 j3 hk⟩, ⟨d1, fr_D hD hF, d3⟩, (fr_dj h1 j1.sy hD).sy, j2, fr_dj h3 j3 hD⟩
end LV
section LCall
variable {p : Program} {l : Launch} {e : Env} {R : Room} {s : State} {m : MethodId} {args : Array Value} {below : List Frame} {meth : Method} {c : Code} {H : Heap} {locs : List Loc} {cells slots : Nat} {Q : State → Prop}
variable {cc : ByteArray} {pc nL maxL n index : Nat} {ls : Array Slot} {rest st0 As : List Value} {D : va_G} {tys : List (ClassId × FieldType)} {ws : va_W} {y : MethodName} {bytes : ByteArray} {ret : Option FieldType} {rm : Room} {own C : String} {b : Nat} {A : Nat → Prop} {S : Type} {wo : S → va_W} {f g : S → Nat}
theorem kV_i {post : Int32 → S → Prop} (hx : p.tables.exec = Jvm.exec) (hb : c.code = cc) (hml : c.maxLocals = nL) (hown : s.vm.findClass own = some m.cls) (hg : ∀ w ∈ gT, w.before args s = true) (hT : cT s)
    (hM : Met l y (Cond.code y bytes maxL ret :: gT) rm (cP D tys ws H.size (.ref b :: As)) (va_Qi post (cB D wo (va_A ws H.size)) (va_A ws H.size)) rm.cells rm.slots (va_A ws H.size))
    (cw : CallW R s args own C index y bytes maxL ret (Cond.code y bytes maxL ret :: gT) rm rm.cells rm.slots n)
    (hK : va_K D vwCl tys s) (hP : va_P D vwCl ws H) (hD : va_D A ws) (hS : va_S A s.heap H locs) (hA : ∀ q, s.heap.size ≤ q → A q) (hr : ∃ cell : Cell, H[b]? = some cell ∧ cell.vm.isStatics = false ∧ s.vm.findClass C = some cell.cls)
    (hn : As.length = n) (hz : ls.size = nL) (hst : st0 = As.reverse ++ .ref b :: rest) (hW : (rest.map fun v => v.category).sum ≤ 8) (hdg : decode cc pc = .ok (.invokevirtual index, 3)) (hf : cells + rm.cells ≤ R.cells ∧ slots + rm.slots ≤ R.slots)
    (kk : ∀ (r : Int32) (u : S) (H1 : Heap) (locs1 : List Loc), post r u → va_P D vwCl (wo u) H1 → va_D (va_A ws H.size) (wo u) → (∀ q : Nat, q < H.size → ¬ va_A ws H.size q → H1[q]? = H[q]?) → va_S A s.heap H1 locs1 → W p l e R s m args below meth c H1 locs1 (cells + rm.cells) (slots + rm.slots) Q (F0 m (pc + 3) ls (.int r :: rest))) :
    W p l e R s m args below meth c H locs cells slots Q (F0 m pc ls st0) := by
  have hF := cc_free hD hS hA
  refine va_calli (va_runV (As := As) (rest := rest) ⟨hx, hb, hml, hown, hg⟩ hM cw (cc_preV hP hK hD hT hr) rfl hn hz hst (lv_room hW) hdg hf) hS (fun q _ h => hF q h) hF (fun r u t H1 locs1 ht _ hp hB _ hk hS1 => ?_)
  exact kk r u H1 locs1 hp (ht ▸ hB.1) hB.2 hk hS1
theorem kV_l {post : Int64 → S → Prop} (hx : p.tables.exec = Jvm.exec) (hb : c.code = cc) (hml : c.maxLocals = nL) (hown : s.vm.findClass own = some m.cls) (hg : ∀ w ∈ gT, w.before args s = true) (hT : cT s)
    (hM : Met l y (Cond.code y bytes maxL ret :: gT) rm (cP D tys ws H.size (.ref b :: As)) (va_Ql post (cB D wo (va_A ws H.size)) (va_A ws H.size)) rm.cells rm.slots (va_A ws H.size))
    (cw : CallW R s args own C index y bytes maxL ret (Cond.code y bytes maxL ret :: gT) rm rm.cells rm.slots n)
    (hK : va_K D vwCl tys s) (hP : va_P D vwCl ws H) (hD : va_D A ws) (hS : va_S A s.heap H locs) (hA : ∀ q, s.heap.size ≤ q → A q) (hr : ∃ cell : Cell, H[b]? = some cell ∧ cell.vm.isStatics = false ∧ s.vm.findClass C = some cell.cls)
    (hn : As.length = n) (hz : ls.size = nL) (hst : st0 = As.reverse ++ .ref b :: rest) (hW : (rest.map fun v => v.category).sum ≤ 8) (hdg : decode cc pc = .ok (.invokevirtual index, 3)) (hf : cells + rm.cells ≤ R.cells ∧ slots + rm.slots ≤ R.slots)
    (kk : ∀ (r : Int64) (u : S) (H1 : Heap) (locs1 : List Loc), post r u → va_P D vwCl (wo u) H1 → va_D (va_A ws H.size) (wo u) → (∀ q : Nat, q < H.size → ¬ va_A ws H.size q → H1[q]? = H[q]?) → va_S A s.heap H1 locs1 → W p l e R s m args below meth c H1 locs1 (cells + rm.cells) (slots + rm.slots) Q (F0 m (pc + 3) ls (.long r :: rest))) :
    W p l e R s m args below meth c H locs cells slots Q (F0 m pc ls st0) := by
  have hF := cc_free hD hS hA
  refine va_calll (va_runV (As := As) (rest := rest) ⟨hx, hb, hml, hown, hg⟩ hM cw (cc_preV hP hK hD hT hr) rfl hn hz hst (lv_room hW) hdg hf) hS (fun q _ h => hF q h) hF (fun r u t H1 locs1 ht _ hp hB _ hk hS1 => ?_)
  exact kk r u H1 locs1 hp (ht ▸ hB.1) hB.2 hk hS1
theorem hV_i {post : Int32 → S → Prop} (hx : p.tables.exec = Jvm.exec) (hb : c.code = cc) (hml : c.maxLocals = nL) (hown : s.vm.findClass own = some m.cls) (hg : ∀ w ∈ gT, w.before args s = true) (hT : cT s)
    (hM : Met l y (Cond.code y bytes maxL ret :: gT) rm (cPg D tys ws H.size (hsum H) (.ref b :: As)) (va_Qi post (cBg D wo (va_A ws H.size) H.size (hsum H) f g) (va_A ws H.size)) rm.cells rm.slots (va_A ws H.size))
    (cw : CallW R s args own C index y bytes maxL ret (Cond.code y bytes maxL ret :: gT) rm rm.cells rm.slots n)
    (hK : va_K D vwCl tys s) (hP : va_P D vwCl ws H) (hD : va_D A ws) (hS : va_S A s.heap H locs) (hA : ∀ q, s.heap.size ≤ q → A q) (hr : ∃ cell : Cell, H[b]? = some cell ∧ cell.vm.isStatics = false ∧ s.vm.findClass C = some cell.cls)
    (hn : As.length = n) (hz : ls.size = nL) (hst : st0 = As.reverse ++ .ref b :: rest) (hW : (rest.map fun v => v.category).sum ≤ 8) (hdg : decode cc pc = .ok (.invokevirtual index, 3)) (hf : cells + rm.cells ≤ R.cells ∧ slots + rm.slots ≤ R.slots)
    (kk : ∀ (r : Int32) (u : S) (H1 : Heap) (locs1 : List Loc), post r u → va_P D vwCl (wo u) H1 → va_D (va_A ws H.size) (wo u) → (∀ q : Nat, q < H.size → ¬ va_A ws H.size q → H1[q]? = H[q]?) → va_S A s.heap H1 locs1 → W p l e R s m args below meth c H1 locs1 (cells + f u) (slots + g u) Q (F0 m (pc + 3) ls (.int r :: rest))) :
    W p l e R s m args below meth c H locs cells slots Q (F0 m pc ls st0) := by
  have hF := cc_free hD hS hA
  refine W.bound (fun b1 b2 => ?_)
  refine va_calli (va_runV (As := As) (rest := rest) ⟨hx, hb, hml, hown, hg⟩ hM cw (cg_preV hP hK hD hT hr) rfl hn hz hst (lv_room hW) hdg hf) hS (fun q _ h => hF q h) hF (fun r u t H1 locs1 ht _ hp hB _ hk hS1 => ?_)
  obtain ⟨hB1, h1, h2⟩ := hB
  rw [ht] at h1 h2
  exact W.tight (k := cells + f u) (n := slots + g u) (by omega) (by omega) (kk r u H1 locs1 hp (ht ▸ hB1.1) hB1.2 hk hS1)
theorem hV_l {post : Int64 → S → Prop} (hx : p.tables.exec = Jvm.exec) (hb : c.code = cc) (hml : c.maxLocals = nL) (hown : s.vm.findClass own = some m.cls) (hg : ∀ w ∈ gT, w.before args s = true) (hT : cT s)
    (hM : Met l y (Cond.code y bytes maxL ret :: gT) rm (cPg D tys ws H.size (hsum H) (.ref b :: As)) (va_Ql post (cBg D wo (va_A ws H.size) H.size (hsum H) f g) (va_A ws H.size)) rm.cells rm.slots (va_A ws H.size))
    (cw : CallW R s args own C index y bytes maxL ret (Cond.code y bytes maxL ret :: gT) rm rm.cells rm.slots n)
    (hK : va_K D vwCl tys s) (hP : va_P D vwCl ws H) (hD : va_D A ws) (hS : va_S A s.heap H locs) (hA : ∀ q, s.heap.size ≤ q → A q) (hr : ∃ cell : Cell, H[b]? = some cell ∧ cell.vm.isStatics = false ∧ s.vm.findClass C = some cell.cls)
    (hn : As.length = n) (hz : ls.size = nL) (hst : st0 = As.reverse ++ .ref b :: rest) (hW : (rest.map fun v => v.category).sum ≤ 8) (hdg : decode cc pc = .ok (.invokevirtual index, 3)) (hf : cells + rm.cells ≤ R.cells ∧ slots + rm.slots ≤ R.slots)
    (kk : ∀ (r : Int64) (u : S) (H1 : Heap) (locs1 : List Loc), post r u → va_P D vwCl (wo u) H1 → va_D (va_A ws H.size) (wo u) → (∀ q : Nat, q < H.size → ¬ va_A ws H.size q → H1[q]? = H[q]?) → va_S A s.heap H1 locs1 → W p l e R s m args below meth c H1 locs1 (cells + f u) (slots + g u) Q (F0 m (pc + 3) ls (.long r :: rest))) :
    W p l e R s m args below meth c H locs cells slots Q (F0 m pc ls st0) := by
  have hF := cc_free hD hS hA
  refine W.bound (fun b1 b2 => ?_)
  refine va_calll (va_runV (As := As) (rest := rest) ⟨hx, hb, hml, hown, hg⟩ hM cw (cg_preV hP hK hD hT hr) rfl hn hz hst (lv_room hW) hdg hf) hS (fun q _ h => hF q h) hF (fun r u t H1 locs1 ht _ hp hB _ hk hS1 => ?_)
  obtain ⟨hB1, h1, h2⟩ := hB
  rw [ht] at h1 h2
  exact W.tight (k := cells + f u) (n := slots + g u) (by omega) (by omega) (kk r u H1 locs1 hp (ht ▸ hB1.1) hB1.2 hk hS1)
theorem kX_i {hh : List (Nat × Nat × Nat × Nat)} {post : Int32 → S → Prop} (hx : p.tables.exec = Jvm.exec) (hb : c.code = cc) (hml : c.maxLocals = nL) (hown : s.vm.findClass own = some m.cls) (hg : ∀ w ∈ gT, w.before args s = true) (hT : cT s) (hTx : cTx s) (hN : cN s) (hZ : cZx A s s.heap)
    (hM : vx_Met l y (Cond.codeWith y bytes maxL ret hh :: gT) rm (cPh D tys ws H.size (hsum H) As) (va_Qi post (cB D wo (va_A ws H.size)) (va_A ws H.size)) (cXn (va_A ws H.size)) rm.cells rm.slots (va_A ws H.size))
    (cw : vx_CSW R s args own index y bytes maxL ret hh (Cond.codeWith y bytes maxL ret hh :: gT) rm rm.cells rm.slots n)
    (hK : va_K D vwCl tys s) (hP : va_P D vwCl ws H) (hD : va_D A ws) (hS : va_S A s.heap H locs) (hA : ∀ q, s.heap.size ≤ q → A q)
    (hn : As.length = n) (hz : ls.size = nL) (hst : st0 = As.reverse ++ rest) (hW : (rest.map fun v => v.category).sum ≤ 8) (hdg : decode cc pc = .ok (.invokestatic index, 3)) (hf : cells + rm.cells ≤ R.cells ∧ slots + rm.slots ≤ R.slots)
    (kk : ∀ (r : Int32) (u : S) (H1 : Heap) (locs1 : List Loc), post r u → va_P D vwCl (wo u) H1 → va_D (va_A ws H.size) (wo u) → (∀ q : Nat, q < H.size → ¬ va_A ws H.size q → H1[q]? = H[q]?) → va_S A s.heap H1 locs1 → W p l e R s m args below meth c H1 locs1 (cells + rm.cells) (slots + rm.slots) Q (F0 m (pc + 3) ls (.int r :: rest))) :
    W p l e R s m args below meth c H locs cells slots Q (F0 m pc ls st0) := by
  have hF := cc_free hD hS hA
  refine vx_calli (vx_runSX (As := As) (rest := rest) ⟨hx, hb, hml, hown, hg⟩ hM cw (ch_preS hP hK hD hT hTx hN hZ hS hA) rfl hn hz hst (lv_room hW) hdg hf) hS (fun q _ h => hF q h) hF (fun q _ h => hF q h) (fun E ce q9 u t H1 locs1 ht hvm hp => hp.elim) (fun r u t H1 locs1 ht _ hp hB _ hk hS1 => ?_)
  exact kk r u H1 locs1 hp (ht ▸ hB.1) hB.2 hk hS1
theorem hX_i {hh : List (Nat × Nat × Nat × Nat)} {post : Int32 → S → Prop} (hx : p.tables.exec = Jvm.exec) (hb : c.code = cc) (hml : c.maxLocals = nL) (hown : s.vm.findClass own = some m.cls) (hg : ∀ w ∈ gT, w.before args s = true) (hT : cT s) (hTx : cTx s) (hN : cN s) (hZ : cZx A s s.heap)
    (hM : vx_Met l y (Cond.codeWith y bytes maxL ret hh :: gT) rm (cPh D tys ws H.size (hsum H) As) (va_Qi post (cBg D wo (va_A ws H.size) H.size (hsum H) f g) (va_A ws H.size)) (cXn (va_A ws H.size)) rm.cells rm.slots (va_A ws H.size))
    (cw : vx_CSW R s args own index y bytes maxL ret hh (Cond.codeWith y bytes maxL ret hh :: gT) rm rm.cells rm.slots n)
    (hK : va_K D vwCl tys s) (hP : va_P D vwCl ws H) (hD : va_D A ws) (hS : va_S A s.heap H locs) (hA : ∀ q, s.heap.size ≤ q → A q)
    (hn : As.length = n) (hz : ls.size = nL) (hst : st0 = As.reverse ++ rest) (hW : (rest.map fun v => v.category).sum ≤ 8) (hdg : decode cc pc = .ok (.invokestatic index, 3)) (hf : cells + rm.cells ≤ R.cells ∧ slots + rm.slots ≤ R.slots)
    (kk : ∀ (r : Int32) (u : S) (H1 : Heap) (locs1 : List Loc), post r u → va_P D vwCl (wo u) H1 → va_D (va_A ws H.size) (wo u) → (∀ q : Nat, q < H.size → ¬ va_A ws H.size q → H1[q]? = H[q]?) → va_S A s.heap H1 locs1 → W p l e R s m args below meth c H1 locs1 (cells + f u) (slots + g u) Q (F0 m (pc + 3) ls (.int r :: rest))) :
    W p l e R s m args below meth c H locs cells slots Q (F0 m pc ls st0) := by
  have hF := cc_free hD hS hA
  refine W.bound (fun b1 b2 => ?_)
  refine vx_calli (vx_runSX (As := As) (rest := rest) ⟨hx, hb, hml, hown, hg⟩ hM cw (ch_preS hP hK hD hT hTx hN hZ hS hA) rfl hn hz hst (lv_room hW) hdg hf) hS (fun q _ h => hF q h) hF (fun q _ h => hF q h) (fun E ce q9 u t H1 locs1 ht hvm hp => hp.elim) (fun r u t H1 locs1 ht _ hp hB _ hk hS1 => ?_)
  obtain ⟨hB1, h1, h2⟩ := hB
  rw [ht] at h1 h2
  exact W.tight (k := cells + f u) (n := slots + g u) (by omega) (by omega) (kk r u H1 locs1 hp (ht ▸ hB1.1) hB1.2 hk hS1)
theorem kN_v {post : S → Prop} (hx : p.tables.exec = Jvm.exec) (hb : c.code = cc) (hml : c.maxLocals = nL) (hown : s.vm.findClass own = some m.cls) (hg : ∀ w ∈ gT, w.before args s = true) (hT : cT s)
    (hM : Met l y (Cond.code y bytes maxL none :: gT) rm (cP D tys ws H.size (.ref b :: As)) (va_Qv post (cB D wo (va_A ws H.size)) (va_A ws H.size)) rm.cells rm.slots (va_A ws H.size))
    (cw : CallB R s args own index y bytes maxL none (Cond.code y bytes maxL none :: gT) rm rm.cells rm.slots n) (hy : y.name = "<init>") (hin : Cond.instanceMethod y ∈ gT)
    (hK : va_K D vwCl tys s) (hP : va_P D vwCl ws H) (hD : va_D A ws) (hS : va_S A s.heap H locs) (hA : ∀ q, s.heap.size ≤ q → A q)
    (hn : As.length = n) (hz : ls.size = nL) (hst : st0 = As.reverse ++ .ref b :: rest) (hW : (rest.map fun v => v.category).sum ≤ 8) (hdg : decode cc pc = .ok (.invokespecial index, 3)) (hf : cells + rm.cells ≤ R.cells ∧ slots + rm.slots ≤ R.slots)
    (kk : ∀ (u : S) (H1 : Heap) (locs1 : List Loc), post u → va_P D vwCl (wo u) H1 → va_D (va_A ws H.size) (wo u) → (∀ q : Nat, q < H.size → ¬ va_A ws H.size q → H1[q]? = H[q]?) → va_S A s.heap H1 locs1 → W p l e R s m args below meth c H1 locs1 (cells + rm.cells) (slots + rm.slots) Q (F0 m (pc + 3) ls rest)) :
    W p l e R s m args below meth c H locs cells slots Q (F0 m pc ls st0) := by
  have hF := cc_free hD hS hA
  refine va_callv (va_runI (As := As) (rest := rest) ⟨hx, hb, hml, hown, hg⟩ hM ⟨cw, hy, hg _ hin⟩ (cc_preS hP hK hD hT) rfl hn hz hst (lv_room hW) hdg hf) hS (fun q _ h => hF q h) hF (fun u t H1 locs1 ht _ hp hB _ hk hS1 => ?_)
  exact kk u H1 locs1 hp (ht ▸ hB.1) hB.2 hk hS1
end LCall

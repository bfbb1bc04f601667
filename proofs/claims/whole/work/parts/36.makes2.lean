section CStat
variable {p : Program} {l : Launch} {e : Env} {R : Room} {s : State} {m : MethodId} {args : Array Value} {below : List Frame} {meth : Method} {c : Code} {H : Heap} {locs : List Loc} {cells slots : Nat} {Q : State → Prop}
variable {pc nL : Nat} {ls : Array Slot} {rest st0 : List Value} {A : Nat → Prop} {H0 : Heap} {mc ms : Nat} {D : va_G} {tys : List (ClassId × FieldType)} {ws : va_W}
variable {y : MethodName} {bytes cc : ByteArray} {maxL n index b : Nat} {ret : Option FieldType} {rm : Room} {own C : String} {As : List Value} {S : Type} {wo : S → va_W}
theorem cS_q {post : Option Nat → S → Prop} (hx : p.tables.exec = Jvm.exec) (hb : c.code = cc) (hml : c.maxLocals = nL) (hown : s.vm.findClass own = some m.cls) (hg : ∀ w ∈ gT, w.before args s = true) (hT : cT s)
    (hM : Met l y (Cond.code y bytes maxL ret :: gT) rm (cP D tys ws H.size As) (va_Qq post (cB D wo (va_A ws H.size)) (va_A ws H.size)) rm.cells rm.slots (va_A ws H.size))
    (cw : CallB R s args own index y bytes maxL ret (Cond.code y bytes maxL ret :: gT) rm rm.cells rm.slots n) (hs : Cond.static y ∈ gT)
    (hK : va_K D vwCl tys s) (hP : va_P D vwCl ws H) (hD : va_D A ws) (hS : va_S A H0 H locs) (hA : ∀ q, H0.size ≤ q → A q)
    (hn : As.length = n) (hz : ls.size = nL) (hst : st0 = As.reverse ++ rest) (hW : (rest.map fun v => v.category).sum ≤ 8) (hdg : decode cc pc = .ok (.invokestatic index, 3)) (hf : cells + rm.cells ≤ R.cells ∧ slots + rm.slots ≤ R.slots)
    (kk : ∀ (r : Option Nat) (u : S) (H1 : Heap) (locs1 : List Loc), post r u → va_P D vwCl (wo u) H1 → va_D A (wo u) → va_S A H0 H1 locs1 → W p l e R s m args below meth c H1 locs1 (cells + rm.cells) (slots + rm.slots) Q (F0 m (pc + 3) ls (va_rf r :: rest))) :
    W p l e R s m args below meth c H locs cells slots Q (F0 m pc ls st0) :=
  cc_q (va_runS (As := As) (rest := rest) ⟨hx, hb, hml, hown, hg⟩ hM ⟨cw, hg _ hs⟩ (cc_preS hP hK hD hT) rfl hn hz hst (lv_room hW) hdg hf) hS hD hA kk
theorem cS_v {post : S → Prop} (hx : p.tables.exec = Jvm.exec) (hb : c.code = cc) (hml : c.maxLocals = nL) (hown : s.vm.findClass own = some m.cls) (hg : ∀ w ∈ gT, w.before args s = true) (hT : cT s)
    (hM : Met l y (Cond.code y bytes maxL ret :: gT) rm (cP D tys ws H.size As) (va_Qv post (cB D wo (va_A ws H.size)) (va_A ws H.size)) rm.cells rm.slots (va_A ws H.size))
    (cw : CallB R s args own index y bytes maxL ret (Cond.code y bytes maxL ret :: gT) rm rm.cells rm.slots n) (hs : Cond.static y ∈ gT)
    (hK : va_K D vwCl tys s) (hP : va_P D vwCl ws H) (hD : va_D A ws) (hS : va_S A H0 H locs) (hA : ∀ q, H0.size ≤ q → A q)
    (hn : As.length = n) (hz : ls.size = nL) (hst : st0 = As.reverse ++ rest) (hW : (rest.map fun v => v.category).sum ≤ 8) (hdg : decode cc pc = .ok (.invokestatic index, 3)) (hf : cells + rm.cells ≤ R.cells ∧ slots + rm.slots ≤ R.slots)
    (kk : ∀ (u : S) (H1 : Heap) (locs1 : List Loc), post u → va_P D vwCl (wo u) H1 → va_D A (wo u) → va_S A H0 H1 locs1 → W p l e R s m args below meth c H1 locs1 (cells + rm.cells) (slots + rm.slots) Q (F0 m (pc + 3) ls rest)) :
    W p l e R s m args below meth c H locs cells slots Q (F0 m pc ls st0) :=
  cc_v (va_runS (As := As) (rest := rest) ⟨hx, hb, hml, hown, hg⟩ hM ⟨cw, hg _ hs⟩ (cc_preS hP hK hD hT) rfl hn hz hst (lv_room hW) hdg hf) hS hD hA kk
end CStat
set_option maxHeartbeats 800000 in
set_option maxRecDepth 100000 in
theorem c_X11_makeBox (l : Launch) (dC : Nat → ClassId) (dI : Nat → Nat → Nat) (g : Nat → Nat) (ty : Nat → ClassId) (sz : Nat) (pl : Nat → Option Nat) (ac : Int64) (ft : Int32) (md : Int32) (Z : cZ) (P : cQ) (k0 : Nat) (a0 : Int32) (b0 : Int32) (pre0 : md < 6000 → vp_in a0 32 → 1 ≤ k0) : Met l yX11_makeBox (Cond.code yX11_makeBox cX11_makeBox 4 (some .long) :: gT) ({ frames := 6, cells := 18 * k0, slots := 101 * k0, locals := 143 }) (cP (dC, dI) (cTy ty) (cW g ty pl ac ft md Z P) sz [.ref (g 0), .int a0, .int b0]) (va_Ql (fun (rz : Int64) (u : (Nat → Option Nat) × Int32 × Int32 × cQ) => (0 = rz ∧ (pl, 6, md, P) = u ∧ ¬ md < 6000) ∨ (0 = rz ∧ (pl, 2, md, P) = u ∧ md < 6000 ∧ ¬ vp_in a0 32) ∨ (∃ q : Nat, 0 = rz ∧ (va_up pl a0.toNatClampNeg (some q), ft, (md + 1), pBox P q 2 ac.toInt32 0) = u ∧ md < 6000 ∧ vp_in a0 32 ∧ (b0 &&& 3) = 0 ∧ q ∉ P.1) ∨ (∃ q : Nat, 0 = rz ∧ (va_up pl a0.toNatClampNeg (some q), ft, (md + 1), pBox P q 1 ac.toInt32 ac.toInt32) = u ∧ md < 6000 ∧ vp_in a0 32 ∧ (b0 &&& 3) = 1 ∧ q ∉ P.1) ∨ (∃ q : Nat, 0 = rz ∧ (va_up pl a0.toNatClampNeg (some q), ft, (md + 1), pBox P q 0 ac.toInt32 ac.toInt32) = u ∧ md < 6000 ∧ vp_in a0 32 ∧ (b0 &&& 3) = 2 ∧ q ∉ P.1) ∨ (∃ q : Nat, 0 = rz ∧ (va_up pl a0.toNatClampNeg (some q), ft, (md + 1), pBox P q 3 ac.toInt32 0) = u ∧ md < 6000 ∧ vp_in a0 32 ∧ ¬ (b0 &&& 3) = 0 ∧ ¬ (b0 &&& 3) = 1 ∧ ¬ (b0 &&& 3) = 2 ∧ q ∉ P.1)) (cB (dC, dI) (fun u : (Nat → Option Nat) × Int32 × Int32 × cQ => cW g ty u.1 ac u.2.1 u.2.2.1 Z u.2.2.2) (va_A (cW g ty pl ac ft md Z P) sz)) (va_A (cW g ty pl ac ft md Z P) sz)) (18 * k0) (101 * k0) (va_A (cW g ty pl ac ft md Z P) sz) := by
  refine cc_of (Qa := fun A => va_Ql (fun (rz : Int64) (u : (Nat → Option Nat) × Int32 × Int32 × cQ) => (0 = rz ∧ (pl, 6, md, P) = u ∧ ¬ md < 6000) ∨ (0 = rz ∧ (pl, 2, md, P) = u ∧ md < 6000 ∧ ¬ vp_in a0 32) ∨ (∃ q : Nat, 0 = rz ∧ (va_up pl a0.toNatClampNeg (some q), ft, (md + 1), pBox P q 2 ac.toInt32 0) = u ∧ md < 6000 ∧ vp_in a0 32 ∧ (b0 &&& 3) = 0 ∧ q ∉ P.1) ∨ (∃ q : Nat, 0 = rz ∧ (va_up pl a0.toNatClampNeg (some q), ft, (md + 1), pBox P q 1 ac.toInt32 ac.toInt32) = u ∧ md < 6000 ∧ vp_in a0 32 ∧ (b0 &&& 3) = 1 ∧ q ∉ P.1) ∨ (∃ q : Nat, 0 = rz ∧ (va_up pl a0.toNatClampNeg (some q), ft, (md + 1), pBox P q 0 ac.toInt32 ac.toInt32) = u ∧ md < 6000 ∧ vp_in a0 32 ∧ (b0 &&& 3) = 2 ∧ q ∉ P.1) ∨ (∃ q : Nat, 0 = rz ∧ (va_up pl a0.toNatClampNeg (some q), ft, (md + 1), pBox P q 3 ac.toInt32 0) = u ∧ md < 6000 ∧ vp_in a0 32 ∧ ¬ (b0 &&& 3) = 0 ∧ ¬ (b0 &&& 3) = 1 ∧ ¬ (b0 &&& 3) = 2 ∧ q ∉ P.1)) (cB (dC, dI) (fun u : (Nat → Option Nat) × Int32 × Int32 × cQ => cW g ty u.1 ac u.2.1 u.2.2.1 Z u.2.2.2) A) A) (by decide) (Nat.le_of_ble_eq_true rfl) ?_
  intro p e s m below meth c A hx hb hr hml hown hg hlk hmn hP hK hD hT hS hA hsz ls hl
  have hown : s.vm.findClass RX11 = some m.cls := hown
  have hl : lv_has ls 4 [(0, .ref (g 0)), (1, .int a0), (2, .int b0)] := hl
  refine lv_aload_n hx hb dX11_makeBox_0 rfl (lv_at hl 0 rfl) ?_
  refine cV_i (C := RX11) (n := 0) (rest := []) hx hb hml hown hg hT (c_X11_mayMake l dC dI g ty s.heap.size pl ac ft md Z P  ) (cv_of hg wM_X11_262 wN_X11_mayMake wL_X11_X11_mayMake wK_X11_mayMake wI_X11 (by decide +kernel) ⟨Nat.le_of_ble_eq_true rfl, Nat.le_of_ble_eq_true rfl⟩) hK hP hD hS hA (va_recv hK hP (ci := 13) (q0 := 0) rfl rfl) rfl hl.1 rfl (Nat.le_of_ble_eq_true rfl) dX11_makeBox_1 ⟨by show 0 + 0 ≤ 18 * k0; omega, by show 0 + 0 ≤ 101 * k0; omega⟩ (fun r_2 u_3 H locs q_1 hP hD hS => ?_)
  rcases q_1 with ⟨rfl, rfl, f_4⟩ | ⟨rfl, rfl, f_5⟩
  · show _
    have hP : va_P (dC, dI) vwCl (cW g ty pl ac ft md Z P) H := hP
    have hD : va_D A (cW g ty pl ac ft md Z P) := hD
    refine lv_if_eq (tgt := 15) hx hb dX11_makeBox_4 (by decide) (fun c9 => absurd c9 (by decide)) (fun _ => ?_)
    refine lv_aload_n hx hb dX11_makeBox_7 rfl (lv_at hl 0 rfl) ?_
    refine lv_iload_n hx hb dX11_makeBox_8 rfl (lv_at hl 1 rfl) ?_
    refine cV_i (C := RX11) (n := 1) (rest := []) hx hb hml hown hg hT (c_X11_isPlace l dC dI g ty H.size pl ac ft md Z P a0 ) (cv_of hg wM_X11_248 wN_X11_isPlace wL_X11_X11_isPlace wK_X11_isPlace wI_X11 (by decide +kernel) ⟨Nat.le_of_ble_eq_true rfl, Nat.le_of_ble_eq_true rfl⟩) hK hP hD hS hA (va_recv hK hP (ci := 13) (q0 := 0) rfl rfl) rfl hl.1 rfl (Nat.le_of_ble_eq_true rfl) dX11_makeBox_9 ⟨by show 0 + 0 + 0 ≤ 18 * k0; omega, by show 0 + 0 + 0 ≤ 101 * k0; omega⟩ (fun r_7 u_8 H locs q_6 hP hD hS => ?_)
    rcases q_6 with ⟨rfl, rfl, f_9⟩ | ⟨rfl, rfl, f_10⟩
    · show _
      have hP : va_P (dC, dI) vwCl (cW g ty pl ac ft md Z P) H := hP
      have hD : va_D A (cW g ty pl ac ft md Z P) := hD
      refine lv_if_ne (tgt := 17) hx hb dX11_makeBox_12 (by decide) (fun _ => ?_) (fun c9 => absurd c9 (by decide)) 
      refine lv_aload_n hx hb dX11_makeBox_17 rfl (lv_at hl 0 rfl) ?_
      refine va_get (D := (dC, dI)) (ci := 13) (v := .long ac) (C := RX11) (T := TX11) (N := 12) hx hb hg inG11 hown hK hP 0 rfl rfl 3 (by decide) (hg _ wF_X11_68) (fun _ h9 => h9) rfl dX11_makeBox_18 ?_
      refine lv_l2i (v := (ac.toInt32)) hx hb dX11_makeBox_21 rfl ?_
      refine lv_istore_n (lv' := [(3, .int (ac.toInt32)), (0, .ref (g 0)), (1, .int a0), (2, .int b0)]) hx hb dX11_makeBox_22 rfl hl (by decide) rfl (fun ls hl => ?_)
      refine lv_iload_n hx hb dX11_makeBox_23 rfl (lv_at hl 3 rfl) ?_
      refine lv_iconst (v := 3) hx hb dX11_makeBox_24 (by decide) ?_
      refine lv_iand hx hb dX11_makeBox_25 ?_
      by_cases e_11 : (b0 &&& 3) = 0
      · show _
        refine lv_tableIn (off := 26) (tgt := 52) hx hb dX11_makeBox_26 (by rw [e_11]; decide) (by rw [e_11]; decide) (by rw [e_11]; decide) (by decide) ?_
        refine lv_aload_n hx hb dX11_makeBox_52 rfl (lv_at hl 1 rfl) ?_
        refine lv_iload_n hx hb dX11_makeBox_53 rfl (lv_at hl 2 rfl) ?_
        have hk1 : 1 ≤ k0 := pre0 (by assumption) (by assumption)
        refine va_new (ci := 12) (fs := [.int 0, .null]) (C := RX9) (T := TX9) (N := 2) hx hb hg inG9 tyX9 tyX9_ok hown (hg _ wC_X11_304) (hg _ wT_X9) (hg _ wI_X9) hK hP hD hS hA rfl (fun j hj => by rcases (show j = 0 ∨ j = 1 by omega) with rfl | rfl <;> rfl) (by show 0 + 0 + 0 + 1 ≤ 18 * k0; omega) (by show 0 + 0 + 0 + 2 ≤ 101 * k0; omega) dX11_makeBox_54 (fun n_12 H hP hD hS => ?_)
        refine lv_dup hx hb dX11_makeBox_57 rfl ?_
        refine lv_iload_n hx hb dX11_makeBox_58 rfl (lv_at hl 0 rfl) ?_
        have hdD : va_D A ((cW g ty pl ac ft md Z P) ++ [(n_12, .inr (12, [.int 0, .null]))] : va_W) := hD
        refine cN_v (n := 1) (rest := [.ref n_12, .int a0, .ref (g 0)]) hx hb hml hown hg hT (c_X9_init l dC dI (cTy ty) ((cW g ty pl ac ft md Z P) ++ [(n_12, .inr (12, [.int 0, .null]))] : va_W) H.size n_12 (ac.toInt32) (cW g ty pl ac ft md Z P).length (lget_last _ _)) (cb_of hg wM_X11_306 wK_X9_init wI_X9 (by decide +kernel) ⟨Nat.le_of_ble_eq_true rfl, Nat.le_of_ble_eq_true rfl⟩) rfl wN_X9_init hK hP hD hS hA rfl hl.1 rfl (Nat.le_of_ble_eq_true rfl) dX11_makeBox_59 ⟨by show 0 + 0 + 0 + 1 + 0 ≤ 18 * k0; omega, by show 0 + 0 + 0 + 2 + 0 ≤ 101 * k0; omega⟩ (fun y_13 H locs _ hP hD hS => ?_)
        obtain ⟨nq_n_12, hP, hD⟩ := cn_box (X := cX g ty pl ac ft md Z) (k := 2) (v := (ac.toInt32)) (w := 0) (by simp [cpf, va_up_self, va_rf]) hP hD
        have hP : va_P (dC, dI) vwCl (cW g ty pl ac ft md Z (pBox P n_12 2 (ac.toInt32) 0)) H := hP
        have hD : va_D A (cW g ty pl ac ft md Z (pBox P n_12 2 (ac.toInt32) 0)) := hD
        refine cV_v (C := RX11) (n := 2) (rest := []) hx hb hml hown hg hT (c_X11_putNew l dC dI g ty H.size pl ac ft md Z (pBox P n_12 2 (ac.toInt32) 0) a0 n_12 (by assumption) (cn_inB (P := P) (q := n_12) (k := 2) (v := (ac.toInt32)) (w := 0)).1 (by rw [cn_inB.2]; decide)) (cv_of hg wM_X11_272 wN_X11_putNew wL_X11_X11_putNew wK_X11_putNew wI_X11 (by decide +kernel) ⟨Nat.le_of_ble_eq_true rfl, Nat.le_of_ble_eq_true rfl⟩) hK hP hD hS hA (va_recv hK hP (ci := 13) (q0 := 0) rfl rfl) rfl hl.1 rfl (Nat.le_of_ble_eq_true rfl) dX11_makeBox_62 ⟨by show 0 + 0 + 0 + 1 + 0 + 0 ≤ 18 * k0; omega, by show 0 + 0 + 0 + 2 + 0 + 0 ≤ 101 * k0; omega⟩ (fun u_16 H locs q_14 hP hD hS => ?_)
        obtain rfl := q_14
        have hP : va_P (dC, dI) vwCl (cW g ty (va_up pl a0.toNatClampNeg (some n_12)) ac ft (md + 1) Z (pBox P n_12 2 (ac.toInt32) 0)) H := hP
        have hD : va_D A (cW g ty (va_up pl a0.toNatClampNeg (some n_12)) ac ft (md + 1) Z (pBox P n_12 2 (ac.toInt32) 0)) := hD
        refine lv_goto (tgt := 113) hx hb dX11_makeBox_65 (by decide) ?_
        refine lv_lconst (v := 0) hx hb dX11_makeBox_113 (by decide) ?_
        refine W.widen (k := 18 * k0) (n := 101 * k0) (by show 0 + 0 + 0 + 1 + 0 + 0 ≤ 18 * k0; omega) (by show 0 + 0 + 0 + 2 + 0 + 0 ≤ 101 * k0; omega) ?_
        refine cr_l (wo := fun u : (Nat → Option Nat) × Int32 × Int32 × cQ => cW g ty u.1 ac u.2.1 u.2.2.1 Z u.2.2.2) ((va_up pl a0.toNatClampNeg (some n_12), ft, (md + 1), (pBox P n_12 2 (ac.toInt32) 0))) hx hb hr hlk hS hP hD ?_ dX11_makeBox_114
        first | exact Or.inr (Or.inr (Or.inl ⟨_, rfl, rfl, (by first | assumption | exact nlt_of (by assumption)), (by first | assumption | exact nlt_of (by assumption)), (by first | assumption | exact nlt_of (by assumption)), (by first | assumption | exact nlt_of (by assumption))⟩)) | exact Or.inr (Or.inr (Or.inr (Or.inl ⟨_, rfl, rfl, (by first | assumption | exact nlt_of (by assumption)), (by first | assumption | exact nlt_of (by assumption)), (by first | assumption | exact nlt_of (by assumption)), (by first | assumption | exact nlt_of (by assumption))⟩))) | exact Or.inr (Or.inr (Or.inr (Or.inr (Or.inl ⟨_, rfl, rfl, (by first | assumption | exact nlt_of (by assumption)), (by first | assumption | exact nlt_of (by assumption)), (by first | assumption | exact nlt_of (by assumption)), (by first | assumption | exact nlt_of (by assumption))⟩)))) | exact Or.inr (Or.inr (Or.inr (Or.inr (Or.inr ⟨_, rfl, rfl, (by first | assumption | exact nlt_of (by assumption)), (by first | assumption | exact nlt_of (by assumption)), (by first | assumption | exact nlt_of (by assumption)), (by first | assumption | exact nlt_of (by assumption)), (by first | assumption | exact nlt_of (by assumption)), (by first | assumption | exact nlt_of (by assumption))⟩))))
      · show _
        by_cases e_17 : (b0 &&& 3) = 1
        · show _
          refine lv_tableIn (off := 42) (tgt := 68) hx hb dX11_makeBox_26 (by rw [e_17]; decide) (by rw [e_17]; decide) (by rw [e_17]; decide) (by decide) ?_
          refine lv_aload_n hx hb dX11_makeBox_68 rfl (lv_at hl 1 rfl) ?_
          refine lv_iload_n hx hb dX11_makeBox_69 rfl (lv_at hl 2 rfl) ?_
          have hk1 : 1 ≤ k0 := pre0 (by assumption) (by assumption)
          refine va_new (ci := 7) (fs := [.int 0, .null, .int 0]) (C := RX3) (T := TX3) (N := 3) hx hb hg inG3 tyX3 tyX3_ok hown (hg _ wC_X11_308) (hg _ wT_X3) (hg _ wI_X3) hK hP hD hS hA rfl (fun j hj => by rcases (show j = 0 ∨ j = 1 ∨ j = 2 by omega) with rfl | rfl | rfl <;> rfl) (by show 0 + 0 + 0 + 1 ≤ 18 * k0; omega) (by show 0 + 0 + 0 + 3 ≤ 101 * k0; omega) dX11_makeBox_70 (fun n_18 H hP hD hS => ?_)
          refine lv_dup hx hb dX11_makeBox_73 rfl ?_
          refine lv_iload_n hx hb dX11_makeBox_74 rfl (lv_at hl 0 rfl) ?_
          have hdD : va_D A ((cW g ty pl ac ft md Z P) ++ [(n_18, .inr (7, [.int 0, .null, .int 0]))] : va_W) := hD
          refine cN_v (n := 1) (rest := [.ref n_18, .int a0, .ref (g 0)]) hx hb hml hown hg hT (c_X3_init_X3 l dC dI (cTy ty) ((cW g ty pl ac ft md Z P) ++ [(n_18, .inr (7, [.int 0, .null, .int 0]))] : va_W) H.size n_18 (ac.toInt32) (cW g ty pl ac ft md Z P).length (lget_last _ _)) (cb_of hg wM_X11_310 wK_X3_init wI_X3 (by decide +kernel) ⟨Nat.le_of_ble_eq_true rfl, Nat.le_of_ble_eq_true rfl⟩) rfl wN_X3_init hK hP hD hS hA rfl hl.1 rfl (Nat.le_of_ble_eq_true rfl) dX11_makeBox_75 ⟨by show 0 + 0 + 0 + 1 + 0 ≤ 18 * k0; omega, by show 0 + 0 + 0 + 3 + 0 ≤ 101 * k0; omega⟩ (fun y_19 H locs _ hP hD hS => ?_)
          obtain ⟨nq_n_18, hP, hD⟩ := cn_box (X := cX g ty pl ac ft md Z) (k := 1) (v := (ac.toInt32)) (w := (ac.toInt32)) (by simp [cpf, va_up_self, va_rf]) hP hD
          have hP : va_P (dC, dI) vwCl (cW g ty pl ac ft md Z (pBox P n_18 1 (ac.toInt32) (ac.toInt32))) H := hP
          have hD : va_D A (cW g ty pl ac ft md Z (pBox P n_18 1 (ac.toInt32) (ac.toInt32))) := hD
          refine cV_v (C := RX11) (n := 2) (rest := []) hx hb hml hown hg hT (c_X11_putNew l dC dI g ty H.size pl ac ft md Z (pBox P n_18 1 (ac.toInt32) (ac.toInt32)) a0 n_18 (by assumption) (cn_inB (P := P) (q := n_18) (k := 1) (v := (ac.toInt32)) (w := (ac.toInt32))).1 (by rw [cn_inB.2]; decide)) (cv_of hg wM_X11_272 wN_X11_putNew wL_X11_X11_putNew wK_X11_putNew wI_X11 (by decide +kernel) ⟨Nat.le_of_ble_eq_true rfl, Nat.le_of_ble_eq_true rfl⟩) hK hP hD hS hA (va_recv hK hP (ci := 13) (q0 := 0) rfl rfl) rfl hl.1 rfl (Nat.le_of_ble_eq_true rfl) dX11_makeBox_78 ⟨by show 0 + 0 + 0 + 1 + 0 + 0 ≤ 18 * k0; omega, by show 0 + 0 + 0 + 3 + 0 + 0 ≤ 101 * k0; omega⟩ (fun u_22 H locs q_20 hP hD hS => ?_)
          obtain rfl := q_20
          have hP : va_P (dC, dI) vwCl (cW g ty (va_up pl a0.toNatClampNeg (some n_18)) ac ft (md + 1) Z (pBox P n_18 1 (ac.toInt32) (ac.toInt32))) H := hP
          have hD : va_D A (cW g ty (va_up pl a0.toNatClampNeg (some n_18)) ac ft (md + 1) Z (pBox P n_18 1 (ac.toInt32) (ac.toInt32))) := hD
          refine lv_goto (tgt := 113) hx hb dX11_makeBox_81 (by decide) ?_
          refine lv_lconst (v := 0) hx hb dX11_makeBox_113 (by decide) ?_
          refine W.widen (k := 18 * k0) (n := 101 * k0) (by show 0 + 0 + 0 + 1 + 0 + 0 ≤ 18 * k0; omega) (by show 0 + 0 + 0 + 3 + 0 + 0 ≤ 101 * k0; omega) ?_
          refine cr_l (wo := fun u : (Nat → Option Nat) × Int32 × Int32 × cQ => cW g ty u.1 ac u.2.1 u.2.2.1 Z u.2.2.2) ((va_up pl a0.toNatClampNeg (some n_18), ft, (md + 1), (pBox P n_18 1 (ac.toInt32) (ac.toInt32)))) hx hb hr hlk hS hP hD ?_ dX11_makeBox_114
          first | exact Or.inr (Or.inr (Or.inl ⟨_, rfl, rfl, (by first | assumption | exact nlt_of (by assumption)), (by first | assumption | exact nlt_of (by assumption)), (by first | assumption | exact nlt_of (by assumption)), (by first | assumption | exact nlt_of (by assumption))⟩)) | exact Or.inr (Or.inr (Or.inr (Or.inl ⟨_, rfl, rfl, (by first | assumption | exact nlt_of (by assumption)), (by first | assumption | exact nlt_of (by assumption)), (by first | assumption | exact nlt_of (by assumption)), (by first | assumption | exact nlt_of (by assumption))⟩))) | exact Or.inr (Or.inr (Or.inr (Or.inr (Or.inl ⟨_, rfl, rfl, (by first | assumption | exact nlt_of (by assumption)), (by first | assumption | exact nlt_of (by assumption)), (by first | assumption | exact nlt_of (by assumption)), (by first | assumption | exact nlt_of (by assumption))⟩)))) | exact Or.inr (Or.inr (Or.inr (Or.inr (Or.inr ⟨_, rfl, rfl, (by first | assumption | exact nlt_of (by assumption)), (by first | assumption | exact nlt_of (by assumption)), (by first | assumption | exact nlt_of (by assumption)), (by first | assumption | exact nlt_of (by assumption)), (by first | assumption | exact nlt_of (by assumption)), (by first | assumption | exact nlt_of (by assumption))⟩))))
        · show _
          by_cases e_23 : (b0 &&& 3) = 2
          · show _
            refine lv_tableIn (off := 58) (tgt := 84) hx hb dX11_makeBox_26 (by rw [e_23]; decide) (by rw [e_23]; decide) (by rw [e_23]; decide) (by decide) ?_
            refine lv_aload_n hx hb dX11_makeBox_84 rfl (lv_at hl 1 rfl) ?_
            refine lv_iload_n hx hb dX11_makeBox_85 rfl (lv_at hl 2 rfl) ?_
            have hk1 : 1 ≤ k0 := pre0 (by assumption) (by assumption)
            refine va_new (ci := 5) (fs := [.int 0, .int 0, .null]) (C := RX0) (T := TX0) (N := 3) hx hb hg inG0 tyX0 tyX0_ok hown (hg _ wC_X11_311) (hg _ wT_X0) (hg _ wI_X0) hK hP hD hS hA rfl (fun j hj => by rcases (show j = 0 ∨ j = 1 ∨ j = 2 by omega) with rfl | rfl | rfl <;> rfl) (by show 0 + 0 + 0 + 1 ≤ 18 * k0; omega) (by show 0 + 0 + 0 + 3 ≤ 101 * k0; omega) dX11_makeBox_86 (fun n_24 H hP hD hS => ?_)
            refine lv_dup hx hb dX11_makeBox_89 rfl ?_
            refine lv_iload_n hx hb dX11_makeBox_90 rfl (lv_at hl 0 rfl) ?_
            have hdD : va_D A ((cW g ty pl ac ft md Z P) ++ [(n_24, .inr (5, [.int 0, .int 0, .null]))] : va_W) := hD
            refine cN_v (n := 1) (rest := [.ref n_24, .int a0, .ref (g 0)]) hx hb hml hown hg hT (c_X0_init l dC dI (cTy ty) ((cW g ty pl ac ft md Z P) ++ [(n_24, .inr (5, [.int 0, .int 0, .null]))] : va_W) H.size n_24 (ac.toInt32) (cW g ty pl ac ft md Z P).length (lget_last _ _)) (cb_of hg wM_X11_313 wK_X0_init wI_X0 (by decide +kernel) ⟨Nat.le_of_ble_eq_true rfl, Nat.le_of_ble_eq_true rfl⟩) rfl wN_X0_init hK hP hD hS hA rfl hl.1 rfl (Nat.le_of_ble_eq_true rfl) dX11_makeBox_91 ⟨by show 0 + 0 + 0 + 1 + 0 ≤ 18 * k0; omega, by show 0 + 0 + 0 + 3 + 0 ≤ 101 * k0; omega⟩ (fun y_25 H locs _ hP hD hS => ?_)
            obtain ⟨nq_n_24, hP, hD⟩ := cn_box (X := cX g ty pl ac ft md Z) (k := 0) (v := (ac.toInt32)) (w := (ac.toInt32)) (by simp [cpf, va_up_self, va_rf]) hP hD
            have hP : va_P (dC, dI) vwCl (cW g ty pl ac ft md Z (pBox P n_24 0 (ac.toInt32) (ac.toInt32))) H := hP
            have hD : va_D A (cW g ty pl ac ft md Z (pBox P n_24 0 (ac.toInt32) (ac.toInt32))) := hD
            refine cV_v (C := RX11) (n := 2) (rest := []) hx hb hml hown hg hT (c_X11_putNew l dC dI g ty H.size pl ac ft md Z (pBox P n_24 0 (ac.toInt32) (ac.toInt32)) a0 n_24 (by assumption) (cn_inB (P := P) (q := n_24) (k := 0) (v := (ac.toInt32)) (w := (ac.toInt32))).1 (by rw [cn_inB.2]; decide)) (cv_of hg wM_X11_272 wN_X11_putNew wL_X11_X11_putNew wK_X11_putNew wI_X11 (by decide +kernel) ⟨Nat.le_of_ble_eq_true rfl, Nat.le_of_ble_eq_true rfl⟩) hK hP hD hS hA (va_recv hK hP (ci := 13) (q0 := 0) rfl rfl) rfl hl.1 rfl (Nat.le_of_ble_eq_true rfl) dX11_makeBox_94 ⟨by show 0 + 0 + 0 + 1 + 0 + 0 ≤ 18 * k0; omega, by show 0 + 0 + 0 + 3 + 0 + 0 ≤ 101 * k0; omega⟩ (fun u_28 H locs q_26 hP hD hS => ?_)
            obtain rfl := q_26
            have hP : va_P (dC, dI) vwCl (cW g ty (va_up pl a0.toNatClampNeg (some n_24)) ac ft (md + 1) Z (pBox P n_24 0 (ac.toInt32) (ac.toInt32))) H := hP
            have hD : va_D A (cW g ty (va_up pl a0.toNatClampNeg (some n_24)) ac ft (md + 1) Z (pBox P n_24 0 (ac.toInt32) (ac.toInt32))) := hD
            refine lv_goto (tgt := 113) hx hb dX11_makeBox_97 (by decide) ?_
            refine lv_lconst (v := 0) hx hb dX11_makeBox_113 (by decide) ?_
            refine W.widen (k := 18 * k0) (n := 101 * k0) (by show 0 + 0 + 0 + 1 + 0 + 0 ≤ 18 * k0; omega) (by show 0 + 0 + 0 + 3 + 0 + 0 ≤ 101 * k0; omega) ?_
            refine cr_l (wo := fun u : (Nat → Option Nat) × Int32 × Int32 × cQ => cW g ty u.1 ac u.2.1 u.2.2.1 Z u.2.2.2) ((va_up pl a0.toNatClampNeg (some n_24), ft, (md + 1), (pBox P n_24 0 (ac.toInt32) (ac.toInt32)))) hx hb hr hlk hS hP hD ?_ dX11_makeBox_114
            first | exact Or.inr (Or.inr (Or.inl ⟨_, rfl, rfl, (by first | assumption | exact nlt_of (by assumption)), (by first | assumption | exact nlt_of (by assumption)), (by first | assumption | exact nlt_of (by assumption)), (by first | assumption | exact nlt_of (by assumption))⟩)) | exact Or.inr (Or.inr (Or.inr (Or.inl ⟨_, rfl, rfl, (by first | assumption | exact nlt_of (by assumption)), (by first | assumption | exact nlt_of (by assumption)), (by first | assumption | exact nlt_of (by assumption)), (by first | assumption | exact nlt_of (by assumption))⟩))) | exact Or.inr (Or.inr (Or.inr (Or.inr (Or.inl ⟨_, rfl, rfl, (by first | assumption | exact nlt_of (by assumption)), (by first | assumption | exact nlt_of (by assumption)), (by first | assumption | exact nlt_of (by assumption)), (by first | assumption | exact nlt_of (by assumption))⟩)))) | exact Or.inr (Or.inr (Or.inr (Or.inr (Or.inr ⟨_, rfl, rfl, (by first | assumption | exact nlt_of (by assumption)), (by first | assumption | exact nlt_of (by assumption)), (by first | assumption | exact nlt_of (by assumption)), (by first | assumption | exact nlt_of (by assumption)), (by first | assumption | exact nlt_of (by assumption)), (by first | assumption | exact nlt_of (by assumption))⟩))))
          · show _
            refine lv_tableOut (tgt := 100) hx hb dX11_makeBox_26 (by have q0 := lv_neT e_11 (a := 0) rfl; have q1 := lv_neT e_17 (a := 1) rfl; have q2 := lv_neT e_23 (a := 2) rfl; omega) (by decide) ?_
            refine lv_aload_n hx hb dX11_makeBox_100 rfl (lv_at hl 1 rfl) ?_
            refine lv_iload_n hx hb dX11_makeBox_101 rfl (lv_at hl 2 rfl) ?_
            have hk1 : 1 ≤ k0 := pre0 (by assumption) (by assumption)
            refine va_new (ci := 8) (fs := [.int 0]) (C := RX4) (T := TX4) (N := 1) hx hb hg inG4 tyX4 tyX4_ok hown (hg _ wC_X11_314) (hg _ wT_X4) (hg _ wI_X4) hK hP hD hS hA rfl (fun j hj => by rcases (show j = 0 by omega) with rfl <;> rfl) (by show 0 + 0 + 0 + 1 ≤ 18 * k0; omega) (by show 0 + 0 + 0 + 1 ≤ 101 * k0; omega) dX11_makeBox_102 (fun n_29 H hP hD hS => ?_)
            refine lv_dup hx hb dX11_makeBox_105 rfl ?_
            refine lv_iload_n hx hb dX11_makeBox_106 rfl (lv_at hl 0 rfl) ?_
            have hdD : va_D A ((cW g ty pl ac ft md Z P) ++ [(n_29, .inr (8, [.int 0]))] : va_W) := hD
            refine cN_v (n := 1) (rest := [.ref n_29, .int a0, .ref (g 0)]) hx hb hml hown hg hT (c_X4_init l dC dI (cTy ty) ((cW g ty pl ac ft md Z P) ++ [(n_29, .inr (8, [.int 0]))] : va_W) H.size n_29 (ac.toInt32) (cW g ty pl ac ft md Z P).length (lget_last _ _)) (cb_of hg wM_X11_316 wK_X4_init wI_X4 (by decide +kernel) ⟨Nat.le_of_ble_eq_true rfl, Nat.le_of_ble_eq_true rfl⟩) rfl wN_X4_init hK hP hD hS hA rfl hl.1 rfl (Nat.le_of_ble_eq_true rfl) dX11_makeBox_107 ⟨by show 0 + 0 + 0 + 1 + 0 ≤ 18 * k0; omega, by show 0 + 0 + 0 + 1 + 0 ≤ 101 * k0; omega⟩ (fun y_30 H locs _ hP hD hS => ?_)
            obtain ⟨nq_n_29, hP, hD⟩ := cn_box (X := cX g ty pl ac ft md Z) (k := 3) (v := (ac.toInt32)) (w := 0) (by simp [cpf, va_up_self, va_rf]) hP hD
            have hP : va_P (dC, dI) vwCl (cW g ty pl ac ft md Z (pBox P n_29 3 (ac.toInt32) 0)) H := hP
            have hD : va_D A (cW g ty pl ac ft md Z (pBox P n_29 3 (ac.toInt32) 0)) := hD
            refine cV_v (C := RX11) (n := 2) (rest := []) hx hb hml hown hg hT (c_X11_putNew l dC dI g ty H.size pl ac ft md Z (pBox P n_29 3 (ac.toInt32) 0) a0 n_29 (by assumption) (cn_inB (P := P) (q := n_29) (k := 3) (v := (ac.toInt32)) (w := 0)).1 (by rw [cn_inB.2]; decide)) (cv_of hg wM_X11_272 wN_X11_putNew wL_X11_X11_putNew wK_X11_putNew wI_X11 (by decide +kernel) ⟨Nat.le_of_ble_eq_true rfl, Nat.le_of_ble_eq_true rfl⟩) hK hP hD hS hA (va_recv hK hP (ci := 13) (q0 := 0) rfl rfl) rfl hl.1 rfl (Nat.le_of_ble_eq_true rfl) dX11_makeBox_110 ⟨by show 0 + 0 + 0 + 1 + 0 + 0 ≤ 18 * k0; omega, by show 0 + 0 + 0 + 1 + 0 + 0 ≤ 101 * k0; omega⟩ (fun u_33 H locs q_31 hP hD hS => ?_)
            obtain rfl := q_31
            have hP : va_P (dC, dI) vwCl (cW g ty (va_up pl a0.toNatClampNeg (some n_29)) ac ft (md + 1) Z (pBox P n_29 3 (ac.toInt32) 0)) H := hP
            have hD : va_D A (cW g ty (va_up pl a0.toNatClampNeg (some n_29)) ac ft (md + 1) Z (pBox P n_29 3 (ac.toInt32) 0)) := hD
            refine lv_lconst (v := 0) hx hb dX11_makeBox_113 (by decide) ?_
            refine W.widen (k := 18 * k0) (n := 101 * k0) (by show 0 + 0 + 0 + 1 + 0 + 0 ≤ 18 * k0; omega) (by show 0 + 0 + 0 + 1 + 0 + 0 ≤ 101 * k0; omega) ?_
            refine cr_l (wo := fun u : (Nat → Option Nat) × Int32 × Int32 × cQ => cW g ty u.1 ac u.2.1 u.2.2.1 Z u.2.2.2) ((va_up pl a0.toNatClampNeg (some n_29), ft, (md + 1), (pBox P n_29 3 (ac.toInt32) 0))) hx hb hr hlk hS hP hD ?_ dX11_makeBox_114
            first | exact Or.inr (Or.inr (Or.inl ⟨_, rfl, rfl, (by first | assumption | exact nlt_of (by assumption)), (by first | assumption | exact nlt_of (by assumption)), (by first | assumption | exact nlt_of (by assumption)), (by first | assumption | exact nlt_of (by assumption))⟩)) | exact Or.inr (Or.inr (Or.inr (Or.inl ⟨_, rfl, rfl, (by first | assumption | exact nlt_of (by assumption)), (by first | assumption | exact nlt_of (by assumption)), (by first | assumption | exact nlt_of (by assumption)), (by first | assumption | exact nlt_of (by assumption))⟩))) | exact Or.inr (Or.inr (Or.inr (Or.inr (Or.inl ⟨_, rfl, rfl, (by first | assumption | exact nlt_of (by assumption)), (by first | assumption | exact nlt_of (by assumption)), (by first | assumption | exact nlt_of (by assumption)), (by first | assumption | exact nlt_of (by assumption))⟩)))) | exact Or.inr (Or.inr (Or.inr (Or.inr (Or.inr ⟨_, rfl, rfl, (by first | assumption | exact nlt_of (by assumption)), (by first | assumption | exact nlt_of (by assumption)), (by first | assumption | exact nlt_of (by assumption)), (by first | assumption | exact nlt_of (by assumption)), (by first | assumption | exact nlt_of (by assumption)), (by first | assumption | exact nlt_of (by assumption))⟩))))
    · show _
      have hP : va_P (dC, dI) vwCl (cW g ty pl ac 2 md Z P) H := hP
      have hD : va_D A (cW g ty pl ac 2 md Z P) := hD
      refine lv_if_ne (tgt := 17) hx hb dX11_makeBox_12 (by decide) (fun c9 => absurd (by decide) c9) (fun _ => ?_)
      refine lv_lconst (v := 0) hx hb dX11_makeBox_15 (by decide) ?_
      refine W.widen (k := 18 * k0) (n := 101 * k0) (by show 0 + 0 + 0 ≤ 18 * k0; omega) (by show 0 + 0 + 0 ≤ 101 * k0; omega) ?_
      refine cr_l (wo := fun u : (Nat → Option Nat) × Int32 × Int32 × cQ => cW g ty u.1 ac u.2.1 u.2.2.1 Z u.2.2.2) ((pl, 2, md, P)) hx hb hr hlk hS hP hD ?_ dX11_makeBox_16
      exact Or.inr (Or.inl ⟨rfl, rfl, (by first | assumption | exact nlt_of (by assumption)), (by first | assumption | exact nlt_of (by assumption))⟩)
  · show _
    have hP : va_P (dC, dI) vwCl (cW g ty pl ac 6 md Z P) H := hP
    have hD : va_D A (cW g ty pl ac 6 md Z P) := hD
    refine lv_if_eq (tgt := 15) hx hb dX11_makeBox_4 (by decide) (fun _ => ?_) (fun c9 => absurd (by decide) c9) 
    refine lv_lconst (v := 0) hx hb dX11_makeBox_15 (by decide) ?_
    refine W.widen (k := 18 * k0) (n := 101 * k0) (by show 0 + 0 ≤ 18 * k0; omega) (by show 0 + 0 ≤ 101 * k0; omega) ?_
    refine cr_l (wo := fun u : (Nat → Option Nat) × Int32 × Int32 × cQ => cW g ty u.1 ac u.2.1 u.2.2.1 Z u.2.2.2) ((pl, 6, md, P)) hx hb hr hlk hS hP hD ?_ dX11_makeBox_16
    exact Or.inl ⟨rfl, rfl, (by first | assumption | exact nlt_of (by assumption))⟩
set_option maxHeartbeats 800000 in
set_option maxRecDepth 100000 in
theorem c_X11_newCase (l : Launch) (dC : Nat → ClassId) (dI : Nat → Nat → Nat) (g : Nat → Nat) (ty : Nat → ClassId) (sz : Nat) (pl : Nat → Option Nat) (ac : Int64) (ft : Int32) (md : Int32) (Z : cZ) (P : cQ) (ch0 : Int32) (n0 : Int32) (pre0 : ¬ n0 < 0) (pre1 : n0.toNatClampNeg < 40) : Met l yX11_newCase (Cond.code yX11_newCase cX11_newCase 2 (some (.object "FaultMill$Shelf")) :: gT) ({ frames := 6, cells := 2, slots := 42, locals := 143 }) (cP (dC, dI) (cTy ty) (cW g ty pl ac ft md Z P) sz [.int ch0, .int n0]) (va_Qq (fun (rz : Option Nat) (u : cQ) => (∃ q y : Nat, (some q) = rz ∧ (pShelf P q y 9 12 n0.toNatClampNeg) = u ∧ ch0 = 0 ∧ q ∉ P.1 ∧ y ∉ P.1 ∧ y ≠ q) ∨ (∃ q y : Nat, (some q) = rz ∧ (pShelf P q y 10 13 n0.toNatClampNeg) = u ∧ ch0 = 1 ∧ q ∉ P.1 ∧ y ∉ P.1 ∧ y ≠ q) ∨ (∃ q y : Nat, (some q) = rz ∧ (pShelf P q y 11 14 n0.toNatClampNeg) = u ∧ ¬ ch0 = 0 ∧ ¬ ch0 = 1 ∧ q ∉ P.1 ∧ y ∉ P.1 ∧ y ≠ q)) (cB (dC, dI) (fun u : cQ => cW g ty pl ac ft md Z u) (va_A (cW g ty pl ac ft md Z P) sz)) (va_A (cW g ty pl ac ft md Z P) sz)) 2 42 (va_A (cW g ty pl ac ft md Z P) sz) := by
  refine cc_of (Qa := fun A => va_Qq (fun (rz : Option Nat) (u : cQ) => (∃ q y : Nat, (some q) = rz ∧ (pShelf P q y 9 12 n0.toNatClampNeg) = u ∧ ch0 = 0 ∧ q ∉ P.1 ∧ y ∉ P.1 ∧ y ≠ q) ∨ (∃ q y : Nat, (some q) = rz ∧ (pShelf P q y 10 13 n0.toNatClampNeg) = u ∧ ch0 = 1 ∧ q ∉ P.1 ∧ y ∉ P.1 ∧ y ≠ q) ∨ (∃ q y : Nat, (some q) = rz ∧ (pShelf P q y 11 14 n0.toNatClampNeg) = u ∧ ¬ ch0 = 0 ∧ ¬ ch0 = 1 ∧ q ∉ P.1 ∧ y ∉ P.1 ∧ y ≠ q)) (cB (dC, dI) (fun u : cQ => cW g ty pl ac ft md Z u) A) A) (by decide) (Nat.le_of_ble_eq_true rfl) ?_
  intro p e s m below meth c A hx hb hr hml hown hg hlk hmn hP hK hD hT hS hA hsz ls hl
  have hown : s.vm.findClass RX11 = some m.cls := hown
  have hl : lv_has ls 2 [(0, .int ch0), (1, .int n0)] := hl
  refine lv_iload_n hx hb dX11_newCase_0 rfl (lv_at hl 0 rfl) ?_
  by_cases e_1 : ch0 = 0
  · show _
    refine lv_lookup (off := 27) (tgt := 28) hx hb dX11_newCase_1 (by decide) (by rw [e_1]; decide) (by decide) ?_
    refine va_new (ci := 11) (fs := [.int 0, .int 0, .null]) (C := RX8) (T := TX8) (N := 3) hx hb hg inG8 tyX8 tyX8_ok hown (hg _ wC_X11_291) (hg _ wT_X8) (hg _ wI_X8) hK hP hD hS hA rfl (fun j hj => by rcases (show j = 0 ∨ j = 1 ∨ j = 2 by omega) with rfl | rfl | rfl <;> rfl) (by show 0 + 1 ≤ 2; omega) (by show 0 + 3 ≤ 42; omega) dX11_newCase_28 (fun n_2 H hP hD hS => ?_)
    refine lv_dup hx hb dX11_newCase_31 rfl ?_
    refine lv_bipush (v := 9) hx hb dX11_newCase_32 (by decide) ?_
    refine lv_bipush (v := 12) hx hb dX11_newCase_34 (by decide) ?_
    refine lv_iload_n hx hb dX11_newCase_36 rfl (lv_at hl 1 rfl) ?_
    have hdD : va_D A ((cW g ty pl ac ft md Z P) ++ [(n_2, .inr (11, [.int 0, .int 0, .null]))] : va_W) := hD
    refine cN_v (n := 3) (rest := [.ref n_2]) hx hb hml hown hg hT (c_X8_init l dC dI (cTy ty) ((cW g ty pl ac ft md Z P) ++ [(n_2, .inr (11, [.int 0, .int 0, .null]))] : va_W) H.size n_2 9 12 n0  (n0.toNatClampNeg) (ty 1) 1 rfl (by first | assumption | exact Nat.lt_trans (by assumption) (by decide)) rfl (by first | assumption | exact Nat.lt_trans (by assumption) (by decide)) (cW g ty pl ac ft md Z P).length (lget_last _ _)) (cb_of hg wM_X11_293 wK_X8_init wI_X8 (by decide +kernel) ⟨Nat.le_of_ble_eq_true rfl, Nat.le_of_ble_eq_true rfl⟩) rfl wN_X8_init hK hP hD hS hA rfl hl.1 rfl (Nat.le_of_ble_eq_true rfl) dX11_newCase_37 ⟨by show 0 + 1 + 1 ≤ 2; omega, by show 0 + 3 + n0.toNatClampNeg ≤ 42; omega⟩ (fun y_3 H locs _ hP hD hS => ?_)
    obtain ⟨nq_n_2, ny_n_2, ne_n_2, hP, hD⟩ := cn_shelf (X := cX g ty pl ac ft md Z) hP hD
    have hP : va_P (dC, dI) vwCl (cW g ty pl ac ft md Z (pShelf P n_2 y_3 9 12 (n0.toNatClampNeg))) H := hP
    have hD : va_D A (cW g ty pl ac ft md Z (pShelf P n_2 y_3 9 12 (n0.toNatClampNeg))) := hD
    refine W.widen (k := 2) (n := 42) (by show 0 + 1 + 1 ≤ 2; omega) (by show 0 + 3 + n0.toNatClampNeg ≤ 42; omega) ?_
    refine cr_q (v := some n_2) (wo := fun u : cQ => cW g ty pl ac ft md Z u) ((pShelf P n_2 y_3 9 12 (n0.toNatClampNeg))) hx hb hr hlk hS hP hD ?_ dX11_newCase_40
    first | exact Or.inl ⟨_, _, rfl, rfl, (by first | assumption | exact Nat.lt_trans (by assumption) (by decide)), (by first | assumption | exact Nat.lt_trans (by assumption) (by decide)), (by first | assumption | exact Nat.lt_trans (by assumption) (by decide)), (by first | assumption | exact Nat.lt_trans (by assumption) (by decide))⟩ | exact Or.inr (Or.inl ⟨_, _, rfl, rfl, (by first | assumption | exact Nat.lt_trans (by assumption) (by decide)), (by first | assumption | exact Nat.lt_trans (by assumption) (by decide)), (by first | assumption | exact Nat.lt_trans (by assumption) (by decide)), (by first | assumption | exact Nat.lt_trans (by assumption) (by decide))⟩) | exact Or.inr (Or.inr ⟨_, _, rfl, rfl, (by first | assumption | exact Nat.lt_trans (by assumption) (by decide)), (by first | assumption | exact Nat.lt_trans (by assumption) (by decide)), (by first | assumption | exact Nat.lt_trans (by assumption) (by decide)), (by first | assumption | exact Nat.lt_trans (by assumption) (by decide)), (by first | assumption | exact Nat.lt_trans (by assumption) (by decide))⟩)
  · show _
    by_cases e_4 : ch0 = 1
    · show _
      refine lv_lookup (off := 40) (tgt := 41) hx hb dX11_newCase_1 (by decide) (by rw [e_4]; decide) (by decide) ?_
      refine va_new (ci := 11) (fs := [.int 0, .int 0, .null]) (C := RX8) (T := TX8) (N := 3) hx hb hg inG8 tyX8 tyX8_ok hown (hg _ wC_X11_291) (hg _ wT_X8) (hg _ wI_X8) hK hP hD hS hA rfl (fun j hj => by rcases (show j = 0 ∨ j = 1 ∨ j = 2 by omega) with rfl | rfl | rfl <;> rfl) (by show 0 + 1 ≤ 2; omega) (by show 0 + 3 ≤ 42; omega) dX11_newCase_41 (fun n_5 H hP hD hS => ?_)
      refine lv_dup hx hb dX11_newCase_44 rfl ?_
      refine lv_bipush (v := 10) hx hb dX11_newCase_45 (by decide) ?_
      refine lv_bipush (v := 13) hx hb dX11_newCase_47 (by decide) ?_
      refine lv_iload_n hx hb dX11_newCase_49 rfl (lv_at hl 1 rfl) ?_
      have hdD : va_D A ((cW g ty pl ac ft md Z P) ++ [(n_5, .inr (11, [.int 0, .int 0, .null]))] : va_W) := hD
      refine cN_v (n := 3) (rest := [.ref n_5]) hx hb hml hown hg hT (c_X8_init l dC dI (cTy ty) ((cW g ty pl ac ft md Z P) ++ [(n_5, .inr (11, [.int 0, .int 0, .null]))] : va_W) H.size n_5 10 13 n0  (n0.toNatClampNeg) (ty 1) 1 rfl (by first | assumption | exact Nat.lt_trans (by assumption) (by decide)) rfl (by first | assumption | exact Nat.lt_trans (by assumption) (by decide)) (cW g ty pl ac ft md Z P).length (lget_last _ _)) (cb_of hg wM_X11_293 wK_X8_init wI_X8 (by decide +kernel) ⟨Nat.le_of_ble_eq_true rfl, Nat.le_of_ble_eq_true rfl⟩) rfl wN_X8_init hK hP hD hS hA rfl hl.1 rfl (Nat.le_of_ble_eq_true rfl) dX11_newCase_50 ⟨by show 0 + 1 + 1 ≤ 2; omega, by show 0 + 3 + n0.toNatClampNeg ≤ 42; omega⟩ (fun y_6 H locs _ hP hD hS => ?_)
      obtain ⟨nq_n_5, ny_n_5, ne_n_5, hP, hD⟩ := cn_shelf (X := cX g ty pl ac ft md Z) hP hD
      have hP : va_P (dC, dI) vwCl (cW g ty pl ac ft md Z (pShelf P n_5 y_6 10 13 (n0.toNatClampNeg))) H := hP
      have hD : va_D A (cW g ty pl ac ft md Z (pShelf P n_5 y_6 10 13 (n0.toNatClampNeg))) := hD
      refine W.widen (k := 2) (n := 42) (by show 0 + 1 + 1 ≤ 2; omega) (by show 0 + 3 + n0.toNatClampNeg ≤ 42; omega) ?_
      refine cr_q (v := some n_5) (wo := fun u : cQ => cW g ty pl ac ft md Z u) ((pShelf P n_5 y_6 10 13 (n0.toNatClampNeg))) hx hb hr hlk hS hP hD ?_ dX11_newCase_53
      first | exact Or.inl ⟨_, _, rfl, rfl, (by first | assumption | exact Nat.lt_trans (by assumption) (by decide)), (by first | assumption | exact Nat.lt_trans (by assumption) (by decide)), (by first | assumption | exact Nat.lt_trans (by assumption) (by decide)), (by first | assumption | exact Nat.lt_trans (by assumption) (by decide))⟩ | exact Or.inr (Or.inl ⟨_, _, rfl, rfl, (by first | assumption | exact Nat.lt_trans (by assumption) (by decide)), (by first | assumption | exact Nat.lt_trans (by assumption) (by decide)), (by first | assumption | exact Nat.lt_trans (by assumption) (by decide)), (by first | assumption | exact Nat.lt_trans (by assumption) (by decide))⟩) | exact Or.inr (Or.inr ⟨_, _, rfl, rfl, (by first | assumption | exact Nat.lt_trans (by assumption) (by decide)), (by first | assumption | exact Nat.lt_trans (by assumption) (by decide)), (by first | assumption | exact Nat.lt_trans (by assumption) (by decide)), (by first | assumption | exact Nat.lt_trans (by assumption) (by decide)), (by first | assumption | exact Nat.lt_trans (by assumption) (by decide))⟩)
    · show _
      refine lv_lookup (off := 53) (tgt := 54) hx hb dX11_newCase_1 (by decide) ((lv_osw (a := 0) e_1 rfl).trans ((lv_osw (a := 1) e_4 rfl).trans (rfl))) (by decide) ?_
      refine va_new (ci := 11) (fs := [.int 0, .int 0, .null]) (C := RX8) (T := TX8) (N := 3) hx hb hg inG8 tyX8 tyX8_ok hown (hg _ wC_X11_291) (hg _ wT_X8) (hg _ wI_X8) hK hP hD hS hA rfl (fun j hj => by rcases (show j = 0 ∨ j = 1 ∨ j = 2 by omega) with rfl | rfl | rfl <;> rfl) (by show 0 + 1 ≤ 2; omega) (by show 0 + 3 ≤ 42; omega) dX11_newCase_54 (fun n_7 H hP hD hS => ?_)
      refine lv_dup hx hb dX11_newCase_57 rfl ?_
      refine lv_bipush (v := 11) hx hb dX11_newCase_58 (by decide) ?_
      refine lv_bipush (v := 14) hx hb dX11_newCase_60 (by decide) ?_
      refine lv_iload_n hx hb dX11_newCase_62 rfl (lv_at hl 1 rfl) ?_
      have hdD : va_D A ((cW g ty pl ac ft md Z P) ++ [(n_7, .inr (11, [.int 0, .int 0, .null]))] : va_W) := hD
      refine cN_v (n := 3) (rest := [.ref n_7]) hx hb hml hown hg hT (c_X8_init l dC dI (cTy ty) ((cW g ty pl ac ft md Z P) ++ [(n_7, .inr (11, [.int 0, .int 0, .null]))] : va_W) H.size n_7 11 14 n0  (n0.toNatClampNeg) (ty 1) 1 rfl (by first | assumption | exact Nat.lt_trans (by assumption) (by decide)) rfl (by first | assumption | exact Nat.lt_trans (by assumption) (by decide)) (cW g ty pl ac ft md Z P).length (lget_last _ _)) (cb_of hg wM_X11_293 wK_X8_init wI_X8 (by decide +kernel) ⟨Nat.le_of_ble_eq_true rfl, Nat.le_of_ble_eq_true rfl⟩) rfl wN_X8_init hK hP hD hS hA rfl hl.1 rfl (Nat.le_of_ble_eq_true rfl) dX11_newCase_63 ⟨by show 0 + 1 + 1 ≤ 2; omega, by show 0 + 3 + n0.toNatClampNeg ≤ 42; omega⟩ (fun y_8 H locs _ hP hD hS => ?_)
      obtain ⟨nq_n_7, ny_n_7, ne_n_7, hP, hD⟩ := cn_shelf (X := cX g ty pl ac ft md Z) hP hD
      have hP : va_P (dC, dI) vwCl (cW g ty pl ac ft md Z (pShelf P n_7 y_8 11 14 (n0.toNatClampNeg))) H := hP
      have hD : va_D A (cW g ty pl ac ft md Z (pShelf P n_7 y_8 11 14 (n0.toNatClampNeg))) := hD
      refine W.widen (k := 2) (n := 42) (by show 0 + 1 + 1 ≤ 2; omega) (by show 0 + 3 + n0.toNatClampNeg ≤ 42; omega) ?_
      refine cr_q (v := some n_7) (wo := fun u : cQ => cW g ty pl ac ft md Z u) ((pShelf P n_7 y_8 11 14 (n0.toNatClampNeg))) hx hb hr hlk hS hP hD ?_ dX11_newCase_66
      first | exact Or.inl ⟨_, _, rfl, rfl, (by first | assumption | exact Nat.lt_trans (by assumption) (by decide)), (by first | assumption | exact Nat.lt_trans (by assumption) (by decide)), (by first | assumption | exact Nat.lt_trans (by assumption) (by decide)), (by first | assumption | exact Nat.lt_trans (by assumption) (by decide))⟩ | exact Or.inr (Or.inl ⟨_, _, rfl, rfl, (by first | assumption | exact Nat.lt_trans (by assumption) (by decide)), (by first | assumption | exact Nat.lt_trans (by assumption) (by decide)), (by first | assumption | exact Nat.lt_trans (by assumption) (by decide)), (by first | assumption | exact Nat.lt_trans (by assumption) (by decide))⟩) | exact Or.inr (Or.inr ⟨_, _, rfl, rfl, (by first | assumption | exact Nat.lt_trans (by assumption) (by decide)), (by first | assumption | exact Nat.lt_trans (by assumption) (by decide)), (by first | assumption | exact Nat.lt_trans (by assumption) (by decide)), (by first | assumption | exact Nat.lt_trans (by assumption) (by decide)), (by first | assumption | exact Nat.lt_trans (by assumption) (by decide))⟩)
set_option maxHeartbeats 800000 in
set_option maxRecDepth 100000 in
theorem c_X11_makeCase (l : Launch) (dC : Nat → ClassId) (dI : Nat → Nat → Nat) (g : Nat → Nat) (ty : Nat → ClassId) (sz : Nat) (pl : Nat → Option Nat) (ac : Int64) (ft : Int32) (md : Int32) (Z : cZ) (P : cQ) (k0 : Nat) (a0 : Int32) (b0 : Int32) (c0 : Int32) (pre0 : md < 6000 → vp_in a0 32 → 0 ≤ (c0 - c0 / 40 * 40) → 1 ≤ k0) : Met l yX11_makeCase (Cond.code yX11_makeCase cX11_makeCase 5 (some .long) :: gT) ({ frames := 7, cells := 18 * k0, slots := 101 * k0, locals := 164 }) (cP (dC, dI) (cTy ty) (cW g ty pl ac ft md Z P) sz [.ref (g 0), .int a0, .int b0, .int c0]) (va_Ql (fun (rz : Int64) (u : (Nat → Option Nat) × Int32 × Int32 × cQ) => (0 = rz ∧ (pl, 6, md, P) = u ∧ ¬ md < 6000) ∨ (0 = rz ∧ (pl, 2, md, P) = u ∧ md < 6000 ∧ ¬ vp_in a0 32) ∨ (0 = rz ∧ (pl, 4, md, P) = u ∧ md < 6000 ∧ vp_in a0 32 ∧ ¬ 0 ≤ (c0 - c0 / 40 * 40)) ∨ (∃ q y : Nat, ((c0 - c0 / 40 * 40).toInt64) = rz ∧ (va_up pl a0.toNatClampNeg (some q), ft, (md + 1), pShelf P q y 9 12 (c0 - c0 / 40 * 40).toNatClampNeg) = u ∧ md < 6000 ∧ vp_in a0 32 ∧ 0 ≤ (c0 - c0 / 40 * 40) ∧ (b0 &&& 3) = 0 ∧ q ∉ P.1 ∧ y ∉ P.1 ∧ y ≠ q) ∨ (∃ q y : Nat, ((c0 - c0 / 40 * 40).toInt64) = rz ∧ (va_up pl a0.toNatClampNeg (some q), ft, (md + 1), pShelf P q y 10 13 (c0 - c0 / 40 * 40).toNatClampNeg) = u ∧ md < 6000 ∧ vp_in a0 32 ∧ 0 ≤ (c0 - c0 / 40 * 40) ∧ (b0 &&& 3) = 1 ∧ q ∉ P.1 ∧ y ∉ P.1 ∧ y ≠ q) ∨ (∃ q y : Nat, ((c0 - c0 / 40 * 40).toInt64) = rz ∧ (va_up pl a0.toNatClampNeg (some q), ft, (md + 1), pShelf P q y 11 14 (c0 - c0 / 40 * 40).toNatClampNeg) = u ∧ md < 6000 ∧ vp_in a0 32 ∧ 0 ≤ (c0 - c0 / 40 * 40) ∧ ¬ (b0 &&& 3) = 0 ∧ ¬ (b0 &&& 3) = 1 ∧ q ∉ P.1 ∧ y ∉ P.1 ∧ y ≠ q)) (cB (dC, dI) (fun u : (Nat → Option Nat) × Int32 × Int32 × cQ => cW g ty u.1 ac u.2.1 u.2.2.1 Z u.2.2.2) (va_A (cW g ty pl ac ft md Z P) sz)) (va_A (cW g ty pl ac ft md Z P) sz)) (18 * k0) (101 * k0) (va_A (cW g ty pl ac ft md Z P) sz) := by
  refine cc_of (Qa := fun A => va_Ql (fun (rz : Int64) (u : (Nat → Option Nat) × Int32 × Int32 × cQ) => (0 = rz ∧ (pl, 6, md, P) = u ∧ ¬ md < 6000) ∨ (0 = rz ∧ (pl, 2, md, P) = u ∧ md < 6000 ∧ ¬ vp_in a0 32) ∨ (0 = rz ∧ (pl, 4, md, P) = u ∧ md < 6000 ∧ vp_in a0 32 ∧ ¬ 0 ≤ (c0 - c0 / 40 * 40)) ∨ (∃ q y : Nat, ((c0 - c0 / 40 * 40).toInt64) = rz ∧ (va_up pl a0.toNatClampNeg (some q), ft, (md + 1), pShelf P q y 9 12 (c0 - c0 / 40 * 40).toNatClampNeg) = u ∧ md < 6000 ∧ vp_in a0 32 ∧ 0 ≤ (c0 - c0 / 40 * 40) ∧ (b0 &&& 3) = 0 ∧ q ∉ P.1 ∧ y ∉ P.1 ∧ y ≠ q) ∨ (∃ q y : Nat, ((c0 - c0 / 40 * 40).toInt64) = rz ∧ (va_up pl a0.toNatClampNeg (some q), ft, (md + 1), pShelf P q y 10 13 (c0 - c0 / 40 * 40).toNatClampNeg) = u ∧ md < 6000 ∧ vp_in a0 32 ∧ 0 ≤ (c0 - c0 / 40 * 40) ∧ (b0 &&& 3) = 1 ∧ q ∉ P.1 ∧ y ∉ P.1 ∧ y ≠ q) ∨ (∃ q y : Nat, ((c0 - c0 / 40 * 40).toInt64) = rz ∧ (va_up pl a0.toNatClampNeg (some q), ft, (md + 1), pShelf P q y 11 14 (c0 - c0 / 40 * 40).toNatClampNeg) = u ∧ md < 6000 ∧ vp_in a0 32 ∧ 0 ≤ (c0 - c0 / 40 * 40) ∧ ¬ (b0 &&& 3) = 0 ∧ ¬ (b0 &&& 3) = 1 ∧ q ∉ P.1 ∧ y ∉ P.1 ∧ y ≠ q)) (cB (dC, dI) (fun u : (Nat → Option Nat) × Int32 × Int32 × cQ => cW g ty u.1 ac u.2.1 u.2.2.1 Z u.2.2.2) A) A) (by decide) (Nat.le_of_ble_eq_true rfl) ?_
  intro p e s m below meth c A hx hb hr hml hown hg hlk hmn hP hK hD hT hS hA hsz ls hl
  have hown : s.vm.findClass RX11 = some m.cls := hown
  have hl : lv_has ls 5 [(0, .ref (g 0)), (1, .int a0), (2, .int b0), (3, .int c0)] := hl
  refine lv_iload_n hx hb dX11_makeCase_0 rfl (lv_at hl 3 rfl) ?_
  refine lv_bipush (v := 40) hx hb dX11_makeCase_1 (by decide) ?_
  refine lv_irem hx hb dX11_makeCase_3 (by decide) ?_
  refine lv_topi (fun m_1 em_1 => ?_)
  refine lv_istore (lv' := [(4, .int m_1), (0, .ref (g 0)), (1, .int a0), (2, .int b0), (3, .int c0)]) hx hb dX11_makeCase_4 hl (by decide) rfl (fun ls hl => ?_)
  refine lv_aload_n hx hb dX11_makeCase_6 rfl (lv_at hl 1 rfl) ?_
  refine cV_i (C := RX11) (n := 0) (rest := []) hx hb hml hown hg hT (c_X11_mayMake l dC dI g ty s.heap.size pl ac ft md Z P  ) (cv_of hg wM_X11_262 wN_X11_mayMake wL_X11_X11_mayMake wK_X11_mayMake wI_X11 (by decide +kernel) ⟨Nat.le_of_ble_eq_true rfl, Nat.le_of_ble_eq_true rfl⟩) hK hP hD hS hA (va_recv hK hP (ci := 13) (q0 := 0) rfl rfl) rfl hl.1 rfl (Nat.le_of_ble_eq_true rfl) dX11_makeCase_7 ⟨by show 0 + 0 ≤ 18 * k0; omega, by show 0 + 0 ≤ 101 * k0; omega⟩ (fun r_3 u_4 H locs q_2 hP hD hS => ?_)
  rcases q_2 with ⟨rfl, rfl, f_5⟩ | ⟨rfl, rfl, f_6⟩
  · show _
    have hP : va_P (dC, dI) vwCl (cW g ty pl ac ft md Z P) H := hP
    have hD : va_D A (cW g ty pl ac ft md Z P) := hD
    refine lv_if_eq (tgt := 30) hx hb dX11_makeCase_10 (by decide) (fun c9 => absurd c9 (by decide)) (fun _ => ?_)
    refine lv_aload_n hx hb dX11_makeCase_13 rfl (lv_at hl 1 rfl) ?_
    refine lv_iload_n hx hb dX11_makeCase_14 rfl (lv_at hl 2 rfl) ?_
    refine cV_i (C := RX11) (n := 1) (rest := []) hx hb hml hown hg hT (c_X11_isPlace l dC dI g ty H.size pl ac ft md Z P a0 ) (cv_of hg wM_X11_248 wN_X11_isPlace wL_X11_X11_isPlace wK_X11_isPlace wI_X11 (by decide +kernel) ⟨Nat.le_of_ble_eq_true rfl, Nat.le_of_ble_eq_true rfl⟩) hK hP hD hS hA (va_recv hK hP (ci := 13) (q0 := 0) rfl rfl) rfl hl.1 rfl (Nat.le_of_ble_eq_true rfl) dX11_makeCase_15 ⟨by show 0 + 0 + 0 ≤ 18 * k0; omega, by show 0 + 0 + 0 ≤ 101 * k0; omega⟩ (fun r_8 u_9 H locs q_7 hP hD hS => ?_)
    rcases q_7 with ⟨rfl, rfl, f_10⟩ | ⟨rfl, rfl, f_11⟩
    · show _
      have hP : va_P (dC, dI) vwCl (cW g ty pl ac ft md Z P) H := hP
      have hD : va_D A (cW g ty pl ac ft md Z P) := hD
      refine lv_if_eq (tgt := 30) hx hb dX11_makeCase_18 (by decide) (fun c9 => absurd c9 (by decide)) (fun _ => ?_)
      refine lv_aload_n hx hb dX11_makeCase_21 rfl (lv_at hl 1 rfl) ?_
      refine lv_iload hx hb dX11_makeCase_22 (lv_at hl 0 rfl) ?_
      refine cV_i (C := RX11) (n := 1) (rest := []) hx hb hml hown hg hT (c_X11_isSize l dC dI g ty H.size pl ac ft md Z P m_1 ) (cv_of hg wM_X11_265 wN_X11_isSize wL_X11_X11_isSize wK_X11_isSize wI_X11 (by decide +kernel) ⟨Nat.le_of_ble_eq_true rfl, Nat.le_of_ble_eq_true rfl⟩) hK hP hD hS hA (va_recv hK hP (ci := 13) (q0 := 0) rfl rfl) rfl hl.1 rfl (Nat.le_of_ble_eq_true rfl) dX11_makeCase_24 ⟨by show 0 + 0 + 0 + 0 ≤ 18 * k0; omega, by show 0 + 0 + 0 + 0 ≤ 101 * k0; omega⟩ (fun r_13 u_14 H locs q_12 hP hD hS => ?_)
      rcases q_12 with ⟨rfl, rfl, f_15⟩ | ⟨rfl, rfl, f_16⟩
      · show _
        have hP : va_P (dC, dI) vwCl (cW g ty pl ac ft md Z P) H := hP
        have hD : va_D A (cW g ty pl ac ft md Z P) := hD
        refine lv_if_ne (tgt := 32) hx hb dX11_makeCase_27 (by decide) (fun _ => ?_) (fun c9 => absurd c9 (by decide)) 
        refine lv_aload_n hx hb dX11_makeCase_32 rfl (lv_at hl 1 rfl) ?_
        refine lv_iload_n hx hb dX11_makeCase_33 rfl (lv_at hl 2 rfl) ?_
        refine lv_iload_n hx hb dX11_makeCase_34 rfl (lv_at hl 3 rfl) ?_
        refine lv_iconst (v := 3) hx hb dX11_makeCase_35 (by decide) ?_
        refine lv_iand hx hb dX11_makeCase_36 ?_
        refine lv_iload hx hb dX11_makeCase_37 (lv_at hl 0 rfl) ?_
        have hk1 : 1 ≤ k0 := pre0 (by assumption) (by assumption) (by rw [← em_1]; assumption)
        have hn9 : m_1.toNatClampNeg < 40 := by rw [em_1]; exact rem_lt40 (by rw [← em_1]; assumption)
        refine cS_q (n := 2) (rest := [.int a0, .ref (g 0)]) hx hb hml hown hg hT (c_X11_newCase l dC dI g ty H.size pl ac ft md Z P (b0 &&& 3) m_1 (by first | assumption | exact nlt_of (by assumption)) (by first | assumption | exact nlt_of (by assumption))) (cb_of hg wM_X11_297 wK_X11_newCase wI_X11 (by decide +kernel) ⟨Nat.le_of_ble_eq_true rfl, Nat.le_of_ble_eq_true rfl⟩) wS_X11_newCase hK hP hD hS hA rfl hl.1 rfl (Nat.le_of_ble_eq_true rfl) dX11_makeCase_39 ⟨by show 0 + 0 + 0 + 0 + 2 ≤ 18 * k0; omega, by show 0 + 0 + 0 + 0 + 42 ≤ 101 * k0; omega⟩ (fun r_18 u_19 H locs q_17 hP hD hS => ?_)
        rcases q_17 with ⟨q_20, y_21, rfl, rfl, f_22, f_23, f_24, f_25⟩ | ⟨q_26, y_27, rfl, rfl, f_28, f_29, f_30, f_31⟩ | ⟨q_32, y_33, rfl, rfl, f_34, f_35, f_36, f_37, f_38⟩
        · show _
          have hP : va_P (dC, dI) vwCl (cW g ty pl ac ft md Z (pShelf P q_20 y_21 9 12 m_1.toNatClampNeg)) H := hP
          have hD : va_D A (cW g ty pl ac ft md Z (pShelf P q_20 y_21 9 12 m_1.toNatClampNeg)) := hD
          refine cV_v (C := RX11) (n := 2) (rest := []) hx hb hml hown hg hT (c_X11_putNew l dC dI g ty H.size pl ac ft md Z (pShelf P q_20 y_21 9 12 m_1.toNatClampNeg) a0 q_20 (by assumption) (cn_inS (P := P) (y := y_21) (v := 9) (w := 12) (N := m_1.toNatClampNeg) f_23).1 (by rw [(cn_inS f_23).2 f_25]; decide)) (cv_of hg wM_X11_272 wN_X11_putNew wL_X11_X11_putNew wK_X11_putNew wI_X11 (by decide +kernel) ⟨Nat.le_of_ble_eq_true rfl, Nat.le_of_ble_eq_true rfl⟩) hK hP hD hS hA (va_recv hK hP (ci := 13) (q0 := 0) rfl rfl) rfl hl.1 rfl (Nat.le_of_ble_eq_true rfl) dX11_makeCase_42 ⟨by show 0 + 0 + 0 + 0 + 2 + 0 ≤ 18 * k0; omega, by show 0 + 0 + 0 + 0 + 42 + 0 ≤ 101 * k0; omega⟩ (fun u_41 H locs q_39 hP hD hS => ?_)
          obtain rfl := q_39
          have hP : va_P (dC, dI) vwCl (cW g ty (va_up pl a0.toNatClampNeg (some q_20)) ac ft (md + 1) Z (pShelf P q_20 y_21 9 12 m_1.toNatClampNeg)) H := hP
          have hD : va_D A (cW g ty (va_up pl a0.toNatClampNeg (some q_20)) ac ft (md + 1) Z (pShelf P q_20 y_21 9 12 m_1.toNatClampNeg)) := hD
          refine lv_iload hx hb dX11_makeCase_45 (lv_at hl 0 rfl) ?_
          refine lv_i2l (v := (m_1.toInt64)) hx hb dX11_makeCase_47 rfl ?_
          refine W.widen (k := 18 * k0) (n := 101 * k0) (by show 0 + 0 + 0 + 0 + 2 + 0 ≤ 18 * k0; omega) (by show 0 + 0 + 0 + 0 + 42 + 0 ≤ 101 * k0; omega) ?_
          subst em_1
          refine cr_l (wo := fun u : (Nat → Option Nat) × Int32 × Int32 × cQ => cW g ty u.1 ac u.2.1 u.2.2.1 Z u.2.2.2) ((va_up pl a0.toNatClampNeg (some q_20), ft, (md + 1), pShelf P q_20 y_21 9 12 (c0 - c0 / 40 * 40).toNatClampNeg)) hx hb hr hlk hS hP hD ?_ dX11_makeCase_48
          first | exact Or.inr (Or.inr (Or.inr (Or.inl ⟨_, _, rfl, rfl, (by first | assumption | exact nlt_of (by assumption)), (by first | assumption | exact nlt_of (by assumption)), (by first | assumption | exact nlt_of (by assumption)), (by first | assumption | exact nlt_of (by assumption)), (by first | assumption | exact nlt_of (by assumption)), (by first | assumption | exact nlt_of (by assumption)), (by first | assumption | exact nlt_of (by assumption))⟩))) | exact Or.inr (Or.inr (Or.inr (Or.inr (Or.inl ⟨_, _, rfl, rfl, (by first | assumption | exact nlt_of (by assumption)), (by first | assumption | exact nlt_of (by assumption)), (by first | assumption | exact nlt_of (by assumption)), (by first | assumption | exact nlt_of (by assumption)), (by first | assumption | exact nlt_of (by assumption)), (by first | assumption | exact nlt_of (by assumption)), (by first | assumption | exact nlt_of (by assumption))⟩)))) | exact Or.inr (Or.inr (Or.inr (Or.inr (Or.inr ⟨_, _, rfl, rfl, (by first | assumption | exact nlt_of (by assumption)), (by first | assumption | exact nlt_of (by assumption)), (by first | assumption | exact nlt_of (by assumption)), (by first | assumption | exact nlt_of (by assumption)), (by first | assumption | exact nlt_of (by assumption)), (by first | assumption | exact nlt_of (by assumption)), (by first | assumption | exact nlt_of (by assumption)), (by first | assumption | exact nlt_of (by assumption))⟩))))
        · show _
          have hP : va_P (dC, dI) vwCl (cW g ty pl ac ft md Z (pShelf P q_26 y_27 10 13 m_1.toNatClampNeg)) H := hP
          have hD : va_D A (cW g ty pl ac ft md Z (pShelf P q_26 y_27 10 13 m_1.toNatClampNeg)) := hD
          refine cV_v (C := RX11) (n := 2) (rest := []) hx hb hml hown hg hT (c_X11_putNew l dC dI g ty H.size pl ac ft md Z (pShelf P q_26 y_27 10 13 m_1.toNatClampNeg) a0 q_26 (by assumption) (cn_inS (P := P) (y := y_27) (v := 10) (w := 13) (N := m_1.toNatClampNeg) f_29).1 (by rw [(cn_inS f_29).2 f_31]; decide)) (cv_of hg wM_X11_272 wN_X11_putNew wL_X11_X11_putNew wK_X11_putNew wI_X11 (by decide +kernel) ⟨Nat.le_of_ble_eq_true rfl, Nat.le_of_ble_eq_true rfl⟩) hK hP hD hS hA (va_recv hK hP (ci := 13) (q0 := 0) rfl rfl) rfl hl.1 rfl (Nat.le_of_ble_eq_true rfl) dX11_makeCase_42 ⟨by show 0 + 0 + 0 + 0 + 2 + 0 ≤ 18 * k0; omega, by show 0 + 0 + 0 + 0 + 42 + 0 ≤ 101 * k0; omega⟩ (fun u_44 H locs q_42 hP hD hS => ?_)
          obtain rfl := q_42
          have hP : va_P (dC, dI) vwCl (cW g ty (va_up pl a0.toNatClampNeg (some q_26)) ac ft (md + 1) Z (pShelf P q_26 y_27 10 13 m_1.toNatClampNeg)) H := hP
          have hD : va_D A (cW g ty (va_up pl a0.toNatClampNeg (some q_26)) ac ft (md + 1) Z (pShelf P q_26 y_27 10 13 m_1.toNatClampNeg)) := hD
          refine lv_iload hx hb dX11_makeCase_45 (lv_at hl 0 rfl) ?_
          refine lv_i2l (v := (m_1.toInt64)) hx hb dX11_makeCase_47 rfl ?_
          refine W.widen (k := 18 * k0) (n := 101 * k0) (by show 0 + 0 + 0 + 0 + 2 + 0 ≤ 18 * k0; omega) (by show 0 + 0 + 0 + 0 + 42 + 0 ≤ 101 * k0; omega) ?_
          subst em_1
          refine cr_l (wo := fun u : (Nat → Option Nat) × Int32 × Int32 × cQ => cW g ty u.1 ac u.2.1 u.2.2.1 Z u.2.2.2) ((va_up pl a0.toNatClampNeg (some q_26), ft, (md + 1), pShelf P q_26 y_27 10 13 (c0 - c0 / 40 * 40).toNatClampNeg)) hx hb hr hlk hS hP hD ?_ dX11_makeCase_48
          first | exact Or.inr (Or.inr (Or.inr (Or.inl ⟨_, _, rfl, rfl, (by first | assumption | exact nlt_of (by assumption)), (by first | assumption | exact nlt_of (by assumption)), (by first | assumption | exact nlt_of (by assumption)), (by first | assumption | exact nlt_of (by assumption)), (by first | assumption | exact nlt_of (by assumption)), (by first | assumption | exact nlt_of (by assumption)), (by first | assumption | exact nlt_of (by assumption))⟩))) | exact Or.inr (Or.inr (Or.inr (Or.inr (Or.inl ⟨_, _, rfl, rfl, (by first | assumption | exact nlt_of (by assumption)), (by first | assumption | exact nlt_of (by assumption)), (by first | assumption | exact nlt_of (by assumption)), (by first | assumption | exact nlt_of (by assumption)), (by first | assumption | exact nlt_of (by assumption)), (by first | assumption | exact nlt_of (by assumption)), (by first | assumption | exact nlt_of (by assumption))⟩)))) | exact Or.inr (Or.inr (Or.inr (Or.inr (Or.inr ⟨_, _, rfl, rfl, (by first | assumption | exact nlt_of (by assumption)), (by first | assumption | exact nlt_of (by assumption)), (by first | assumption | exact nlt_of (by assumption)), (by first | assumption | exact nlt_of (by assumption)), (by first | assumption | exact nlt_of (by assumption)), (by first | assumption | exact nlt_of (by assumption)), (by first | assumption | exact nlt_of (by assumption)), (by first | assumption | exact nlt_of (by assumption))⟩))))
        · show _
          have hP : va_P (dC, dI) vwCl (cW g ty pl ac ft md Z (pShelf P q_32 y_33 11 14 m_1.toNatClampNeg)) H := hP
          have hD : va_D A (cW g ty pl ac ft md Z (pShelf P q_32 y_33 11 14 m_1.toNatClampNeg)) := hD
          refine cV_v (C := RX11) (n := 2) (rest := []) hx hb hml hown hg hT (c_X11_putNew l dC dI g ty H.size pl ac ft md Z (pShelf P q_32 y_33 11 14 m_1.toNatClampNeg) a0 q_32 (by assumption) (cn_inS (P := P) (y := y_33) (v := 11) (w := 14) (N := m_1.toNatClampNeg) f_36).1 (by rw [(cn_inS f_36).2 f_38]; decide)) (cv_of hg wM_X11_272 wN_X11_putNew wL_X11_X11_putNew wK_X11_putNew wI_X11 (by decide +kernel) ⟨Nat.le_of_ble_eq_true rfl, Nat.le_of_ble_eq_true rfl⟩) hK hP hD hS hA (va_recv hK hP (ci := 13) (q0 := 0) rfl rfl) rfl hl.1 rfl (Nat.le_of_ble_eq_true rfl) dX11_makeCase_42 ⟨by show 0 + 0 + 0 + 0 + 2 + 0 ≤ 18 * k0; omega, by show 0 + 0 + 0 + 0 + 42 + 0 ≤ 101 * k0; omega⟩ (fun u_47 H locs q_45 hP hD hS => ?_)
          obtain rfl := q_45
          have hP : va_P (dC, dI) vwCl (cW g ty (va_up pl a0.toNatClampNeg (some q_32)) ac ft (md + 1) Z (pShelf P q_32 y_33 11 14 m_1.toNatClampNeg)) H := hP
          have hD : va_D A (cW g ty (va_up pl a0.toNatClampNeg (some q_32)) ac ft (md + 1) Z (pShelf P q_32 y_33 11 14 m_1.toNatClampNeg)) := hD
          refine lv_iload hx hb dX11_makeCase_45 (lv_at hl 0 rfl) ?_
          refine lv_i2l (v := (m_1.toInt64)) hx hb dX11_makeCase_47 rfl ?_
          refine W.widen (k := 18 * k0) (n := 101 * k0) (by show 0 + 0 + 0 + 0 + 2 + 0 ≤ 18 * k0; omega) (by show 0 + 0 + 0 + 0 + 42 + 0 ≤ 101 * k0; omega) ?_
          subst em_1
          refine cr_l (wo := fun u : (Nat → Option Nat) × Int32 × Int32 × cQ => cW g ty u.1 ac u.2.1 u.2.2.1 Z u.2.2.2) ((va_up pl a0.toNatClampNeg (some q_32), ft, (md + 1), pShelf P q_32 y_33 11 14 (c0 - c0 / 40 * 40).toNatClampNeg)) hx hb hr hlk hS hP hD ?_ dX11_makeCase_48
          first | exact Or.inr (Or.inr (Or.inr (Or.inl ⟨_, _, rfl, rfl, (by first | assumption | exact nlt_of (by assumption)), (by first | assumption | exact nlt_of (by assumption)), (by first | assumption | exact nlt_of (by assumption)), (by first | assumption | exact nlt_of (by assumption)), (by first | assumption | exact nlt_of (by assumption)), (by first | assumption | exact nlt_of (by assumption)), (by first | assumption | exact nlt_of (by assumption))⟩))) | exact Or.inr (Or.inr (Or.inr (Or.inr (Or.inl ⟨_, _, rfl, rfl, (by first | assumption | exact nlt_of (by assumption)), (by first | assumption | exact nlt_of (by assumption)), (by first | assumption | exact nlt_of (by assumption)), (by first | assumption | exact nlt_of (by assumption)), (by first | assumption | exact nlt_of (by assumption)), (by first | assumption | exact nlt_of (by assumption)), (by first | assumption | exact nlt_of (by assumption))⟩)))) | exact Or.inr (Or.inr (Or.inr (Or.inr (Or.inr ⟨_, _, rfl, rfl, (by first | assumption | exact nlt_of (by assumption)), (by first | assumption | exact nlt_of (by assumption)), (by first | assumption | exact nlt_of (by assumption)), (by first | assumption | exact nlt_of (by assumption)), (by first | assumption | exact nlt_of (by assumption)), (by first | assumption | exact nlt_of (by assumption)), (by first | assumption | exact nlt_of (by assumption)), (by first | assumption | exact nlt_of (by assumption))⟩))))
      · show _
        have hP : va_P (dC, dI) vwCl (cW g ty pl ac 4 md Z P) H := hP
        have hD : va_D A (cW g ty pl ac 4 md Z P) := hD
        refine lv_if_ne (tgt := 32) hx hb dX11_makeCase_27 (by decide) (fun c9 => absurd (by decide) c9) (fun _ => ?_)
        refine lv_lconst (v := 0) hx hb dX11_makeCase_30 (by decide) ?_
        refine W.widen (k := 18 * k0) (n := 101 * k0) (by show 0 + 0 + 0 + 0 ≤ 18 * k0; omega) (by show 0 + 0 + 0 + 0 ≤ 101 * k0; omega) ?_
        subst em_1
        refine cr_l (wo := fun u : (Nat → Option Nat) × Int32 × Int32 × cQ => cW g ty u.1 ac u.2.1 u.2.2.1 Z u.2.2.2) ((pl, 4, md, P)) hx hb hr hlk hS hP hD ?_ dX11_makeCase_31
        exact Or.inr (Or.inr (Or.inl ⟨rfl, rfl, (by first | assumption | exact nlt_of (by assumption)), (by first | assumption | exact nlt_of (by assumption)), (by first | assumption | exact nlt_of (by assumption))⟩))
    · show _
      have hP : va_P (dC, dI) vwCl (cW g ty pl ac 2 md Z P) H := hP
      have hD : va_D A (cW g ty pl ac 2 md Z P) := hD
      refine lv_if_eq (tgt := 30) hx hb dX11_makeCase_18 (by decide) (fun _ => ?_) (fun c9 => absurd (by decide) c9) 
      refine lv_lconst (v := 0) hx hb dX11_makeCase_30 (by decide) ?_
      refine W.widen (k := 18 * k0) (n := 101 * k0) (by show 0 + 0 + 0 ≤ 18 * k0; omega) (by show 0 + 0 + 0 ≤ 101 * k0; omega) ?_
      subst em_1
      refine cr_l (wo := fun u : (Nat → Option Nat) × Int32 × Int32 × cQ => cW g ty u.1 ac u.2.1 u.2.2.1 Z u.2.2.2) ((pl, 2, md, P)) hx hb hr hlk hS hP hD ?_ dX11_makeCase_31
      exact Or.inr (Or.inl ⟨rfl, rfl, (by first | assumption | exact nlt_of (by assumption)), (by first | assumption | exact nlt_of (by assumption))⟩)
  · show _
    have hP : va_P (dC, dI) vwCl (cW g ty pl ac 6 md Z P) H := hP
    have hD : va_D A (cW g ty pl ac 6 md Z P) := hD
    refine lv_if_eq (tgt := 30) hx hb dX11_makeCase_10 (by decide) (fun _ => ?_) (fun c9 => absurd (by decide) c9) 
    refine lv_lconst (v := 0) hx hb dX11_makeCase_30 (by decide) ?_
    refine W.widen (k := 18 * k0) (n := 101 * k0) (by show 0 + 0 ≤ 18 * k0; omega) (by show 0 + 0 ≤ 101 * k0; omega) ?_
    subst em_1
    refine cr_l (wo := fun u : (Nat → Option Nat) × Int32 × Int32 × cQ => cW g ty u.1 ac u.2.1 u.2.2.1 Z u.2.2.2) ((pl, 6, md, P)) hx hb hr hlk hS hP hD ?_ dX11_makeCase_31
    exact Or.inl ⟨rfl, rfl, (by first | assumption | exact nlt_of (by assumption))⟩

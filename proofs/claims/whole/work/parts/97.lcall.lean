set_option maxHeartbeats 1600000 in
set_option maxRecDepth 100000 in
theorem c_L_op (l : Launch) (dC : Nat → ClassId) (dI : Nat → Nat → Nat) (g : Nat → Nat) (ty : Nat → ClassId) (sz tot : Nat) (pl : Nat → Option Nat) (ac : Int64) (ft : Int32) (md : Int32) (Z : cZ) (P : cQ) (qo : Nat) (o : Nat → Int64) (k0 : Nat) (w0 a0 b0 c0 : Int32) (wf : cWF pl P) (pre0 : kMk w0 a0 b0 c0 md → 1 ≤ k0) (hlt : l.stackTraces = false) : vx_Met l yL_op (Cond.codeWith yL_op cL_op 7 (some .int) [(0, 13, 16, 13), (0, 13, 20, 15), (0, 13, 24, 17), (0, 13, 28, 19), (0, 13, 32, 21), (0, 13, 36, 23), (0, 13, 41, 25)] :: gT) ({ frames := 10, cells := 18 * k0 + 1, slots := 101 * k0 + 8, locals := 409 }) (cPh (dC, dI) (cTy ty) (lW g ty qo o (pl, ac, ft, md, Z, P)) sz tot [.ref (g 0), .int w0, .int a0, .int b0, .int c0, .ref qo]) (va_Qi (fun (k : Int32) (u : ((Nat → Option Nat) × Int64 × Int32 × Int32 × cZ × cQ) × (Nat → Int64)) => (k = 0 ∧ ∃ (rz : Int64) (v : (Nat → Option Nat) × Int32 × Int32 × cZ × cQ), q_X11_op w0 a0 b0 c0 pl ac ft md Z P rz v ∧ u = ((v.1, ac, v.2.1, v.2.2.1, v.2.2.2.1, v.2.2.2.2), vp_updL o 0 rz)) ∨ (px_X11_op w0 a0 b0 c0 pl ac ft md Z P u.1 ∧ k = u.1.2.2.1 + 1 ∧ u.2 = o)) (cB (dC, dI) (fun u : ((Nat → Option Nat) × Int64 × Int32 × Int32 × cZ × cQ) × (Nat → Int64) => lW g ty qo u.2 u.1) (va_A (lW g ty qo o (pl, ac, ft, md, Z, P)) sz)) (va_A (lW g ty qo o (pl, ac, ft, md, Z, P)) sz)) (cXn (va_A (lW g ty qo o (pl, ac, ft, md, Z, P)) sz)) (18 * k0 + 1) (101 * k0 + 8) (va_A (lW g ty qo o (pl, ac, ft, md, Z, P)) sz) := by
  refine ch_of (Qa := fun A => va_Qi (fun (k : Int32) (u : ((Nat → Option Nat) × Int64 × Int32 × Int32 × cZ × cQ) × (Nat → Int64)) => (k = 0 ∧ ∃ (rz : Int64) (v : (Nat → Option Nat) × Int32 × Int32 × cZ × cQ), q_X11_op w0 a0 b0 c0 pl ac ft md Z P rz v ∧ u = ((v.1, ac, v.2.1, v.2.2.1, v.2.2.2.1, v.2.2.2.2), vp_updL o 0 rz)) ∨ (px_X11_op w0 a0 b0 c0 pl ac ft md Z P u.1 ∧ k = u.1.2.2.1 + 1 ∧ u.2 = o)) (cB (dC, dI) (fun u : ((Nat → Option Nat) × Int64 × Int32 × Int32 × cZ × cQ) × (Nat → Int64) => lW g ty qo u.2 u.1) A) A) (by decide) (Nat.le_of_ble_eq_true rfl) ?_
  intro p e s m below meth c A hx hb hr hml htab hown hg hlk hP hK hD hT hTx hN hZ hS hA hsz htot ls hl
  have hown : s.vm.findClass RL = some m.cls := hown
  obtain ⟨hPo, hPc⟩ := cons_P hP
  obtain ⟨hDo, hDc, hdj⟩ := cons_D hD
  have hF := cc_free hDc hS hA
  have hl : lv_has ls 7 [(0, .ref (g 0)), (1, .int w0), (2, .int a0), (3, .int b0), (4, .int c0), (5, .ref qo)] := hl
  refine lv_aload hx hb dL_op_0 (lv_at hl 5 rfl) ?_
  refine lv_iconst (v := 0) hx hb dL_op_2 (by decide) ?_
  refine lv_aload_n hx hb dL_op_3 rfl (lv_at hl 0 rfl) ?_
  refine lv_iload_n hx hb dL_op_4 rfl (lv_at hl 1 rfl) ?_
  refine lv_iload_n hx hb dL_op_5 rfl (lv_at hl 2 rfl) ?_
  refine lv_iload_n hx hb dL_op_6 rfl (lv_at hl 3 rfl) ?_
  refine lv_iload hx hb dL_op_7 (lv_at hl 4 rfl) ?_
  refine vx_calll (vx_runV (C := RX11) (n := 4) (As := [.int w0, .int a0, .int b0, .int c0]) (rest := [.int 0, .ref qo]) ⟨hx, hb, hml, hown, hg⟩ (c_X11_op l dC dI g ty s.heap.size pl ac ft md Z P k0 w0 a0 b0 c0 wf pre0 hlt) (cv_of hg wM_L_7 wN_X11_op wL_X11_X11_op wK_X11_op wI_X11 (by decide +kernel) ⟨Nat.le_of_ble_eq_true rfl, Nat.le_of_ble_eq_true rfl⟩) (cx_preV hPc hK hDc hT hTx hZ hS hA (va_recv hK hPc (ci := 13) (q0 := 0) rfl rfl)) rfl rfl hl.1 rfl (lv_room (Nat.le_of_ble_eq_true rfl)) dL_op_9 ⟨by show 0 + (18 * k0 + 1) ≤ 18 * k0 + 1; omega, by show 0 + (101 * k0 + 8) ≤ 101 * k0 + 8; omega⟩) hS (fun q _ h => hF q h) hF (fun q _ h => hF q h) (fun E ce q9 u t H1 locs1 ht hvm hp hB hsz1 hk1 hS hce hcv hcl => ?_) (fun r u t H1 locs1 ht hvm hp hB hsz1 hk1 hS => ?_)
  · obtain ⟨rfl, hP1, hB2⟩ := hB
    rw [ht] at hP1
    have hPw := (fr_keep hPo hdj.sy hk1).app hP1
    have hDw := app_D hDo (fr_D hB2 hF) (fr_dj hPo hdj.sy hB2).sy
    have hf7 : ∃ k : Nat, k < 7 ∧ u.2.2.1 = nI k := by
      obtain ⟨r9, u9, rfl, hq, hn9⟩ := hp
      exact ((wq_answerOf wf hq).2.1).resolve_left hn9
    obtain ⟨pl1, ac1, ft1, md1, Z1, P1⟩ := u
    rcases f7 hf7 with hf | hf | hf | hf | hf | hf | hf
    · have hf : ft1 = 0 := hf
      subst hf
      refine ct_catch (E := (cCa 0).1) hown [] ⟨0, 13, 16, 13⟩ [⟨0, 13, 20, 15⟩, ⟨0, 13, 24, 17⟩, ⟨0, 13, 28, 19⟩, ⟨0, 13, 32, 21⟩, ⟨0, 13, 36, 23⟩, ⟨0, 13, 41, 25⟩] htab (fun z hz => by cases hz) (by decide) (by decide) (hg _ wC_L_13) (va_Nw.use rfl (hTx.2.1 0 (by decide))) hce hcv hcl ?_
      refine lv_astore (lv' := [(6, .ref q9), (0, .ref (g 0)), (1, .int w0), (2, .int a0), (3, .int b0), (4, .int c0), (5, .ref qo)]) hx hb dL_op_16 hl (by decide) rfl (fun ls hl => ?_)
      refine lv_iconst (v := 1) hx hb dL_op_18 (by decide) ?_
      refine vx_ret ?_
      refine W.widen (k := 18 * k0 + 1) (n := 101 * k0 + 8) (by show 0 + (18 * k0 + 1) ≤ 18 * k0 + 1; omega) (by show 0 + (101 * k0 + 8) ≤ 101 * k0 + 8; omega) ?_
      exact cr_i (wo := fun u : ((Nat → Option Nat) × Int64 × Int32 × Int32 × cZ × cQ) × (Nat → Int64) => lW g ty qo u.2 u.1) ((pl1, ac1, 0, md1, Z1, P1), o) hx hb hr hlk hS hPw hDw (Or.inr ⟨hp, rfl, rfl⟩) dL_op_19
    · have hf : ft1 = 1 := hf
      subst hf
      refine ct_catch (E := (cCa 1).1) hown [⟨0, 13, 16, 13⟩] ⟨0, 13, 20, 15⟩ [⟨0, 13, 24, 17⟩, ⟨0, 13, 28, 19⟩, ⟨0, 13, 32, 21⟩, ⟨0, 13, 36, 23⟩, ⟨0, 13, 41, 25⟩] htab (fun z hz => by
        simp only [List.mem_cons, List.not_mem_nil, or_false] at hz
        rcases hz with rfl
        · exact ⟨by decide, by decide, _, hg _ wC_L_13, hN 0 1 (by decide) (by decide)⟩) (by decide) (by decide) (hg _ wC_L_15) (va_Nw.use rfl (hTx.2.1 1 (by decide))) hce hcv hcl ?_
      refine lv_astore (lv' := [(6, .ref q9), (0, .ref (g 0)), (1, .int w0), (2, .int a0), (3, .int b0), (4, .int c0), (5, .ref qo)]) hx hb dL_op_20 hl (by decide) rfl (fun ls hl => ?_)
      refine lv_iconst (v := 2) hx hb dL_op_22 (by decide) ?_
      refine vx_ret ?_
      refine W.widen (k := 18 * k0 + 1) (n := 101 * k0 + 8) (by show 0 + (18 * k0 + 1) ≤ 18 * k0 + 1; omega) (by show 0 + (101 * k0 + 8) ≤ 101 * k0 + 8; omega) ?_
      exact cr_i (wo := fun u : ((Nat → Option Nat) × Int64 × Int32 × Int32 × cZ × cQ) × (Nat → Int64) => lW g ty qo u.2 u.1) ((pl1, ac1, 1, md1, Z1, P1), o) hx hb hr hlk hS hPw hDw (Or.inr ⟨hp, rfl, rfl⟩) dL_op_23
    · have hf : ft1 = 2 := hf
      subst hf
      refine ct_catch (E := (cCa 2).1) hown [⟨0, 13, 16, 13⟩, ⟨0, 13, 20, 15⟩] ⟨0, 13, 24, 17⟩ [⟨0, 13, 28, 19⟩, ⟨0, 13, 32, 21⟩, ⟨0, 13, 36, 23⟩, ⟨0, 13, 41, 25⟩] htab (fun z hz => by
        simp only [List.mem_cons, List.not_mem_nil, or_false] at hz
        rcases hz with rfl | rfl
        · exact ⟨by decide, by decide, _, hg _ wC_L_13, hN 0 2 (by decide) (by decide)⟩
        · exact ⟨by decide, by decide, _, hg _ wC_L_15, hN 1 2 (by decide) (by decide)⟩) (by decide) (by decide) (hg _ wC_L_17) (va_Nw.use rfl (hTx.2.1 2 (by decide))) hce hcv hcl ?_
      refine lv_astore (lv' := [(6, .ref q9), (0, .ref (g 0)), (1, .int w0), (2, .int a0), (3, .int b0), (4, .int c0), (5, .ref qo)]) hx hb dL_op_24 hl (by decide) rfl (fun ls hl => ?_)
      refine lv_iconst (v := 3) hx hb dL_op_26 (by decide) ?_
      refine vx_ret ?_
      refine W.widen (k := 18 * k0 + 1) (n := 101 * k0 + 8) (by show 0 + (18 * k0 + 1) ≤ 18 * k0 + 1; omega) (by show 0 + (101 * k0 + 8) ≤ 101 * k0 + 8; omega) ?_
      exact cr_i (wo := fun u : ((Nat → Option Nat) × Int64 × Int32 × Int32 × cZ × cQ) × (Nat → Int64) => lW g ty qo u.2 u.1) ((pl1, ac1, 2, md1, Z1, P1), o) hx hb hr hlk hS hPw hDw (Or.inr ⟨hp, rfl, rfl⟩) dL_op_27
    · have hf : ft1 = 3 := hf
      subst hf
      refine ct_catch (E := (cCa 3).1) hown [⟨0, 13, 16, 13⟩, ⟨0, 13, 20, 15⟩, ⟨0, 13, 24, 17⟩] ⟨0, 13, 28, 19⟩ [⟨0, 13, 32, 21⟩, ⟨0, 13, 36, 23⟩, ⟨0, 13, 41, 25⟩] htab (fun z hz => by
        simp only [List.mem_cons, List.not_mem_nil, or_false] at hz
        rcases hz with rfl | rfl | rfl
        · exact ⟨by decide, by decide, _, hg _ wC_L_13, hN 0 3 (by decide) (by decide)⟩
        · exact ⟨by decide, by decide, _, hg _ wC_L_15, hN 1 3 (by decide) (by decide)⟩
        · exact ⟨by decide, by decide, _, hg _ wC_L_17, hN 2 3 (by decide) (by decide)⟩) (by decide) (by decide) (hg _ wC_L_19) (va_Nw.use rfl (hTx.2.1 3 (by decide))) hce hcv hcl ?_
      refine lv_astore (lv' := [(6, .ref q9), (0, .ref (g 0)), (1, .int w0), (2, .int a0), (3, .int b0), (4, .int c0), (5, .ref qo)]) hx hb dL_op_28 hl (by decide) rfl (fun ls hl => ?_)
      refine lv_iconst (v := 4) hx hb dL_op_30 (by decide) ?_
      refine vx_ret ?_
      refine W.widen (k := 18 * k0 + 1) (n := 101 * k0 + 8) (by show 0 + (18 * k0 + 1) ≤ 18 * k0 + 1; omega) (by show 0 + (101 * k0 + 8) ≤ 101 * k0 + 8; omega) ?_
      exact cr_i (wo := fun u : ((Nat → Option Nat) × Int64 × Int32 × Int32 × cZ × cQ) × (Nat → Int64) => lW g ty qo u.2 u.1) ((pl1, ac1, 3, md1, Z1, P1), o) hx hb hr hlk hS hPw hDw (Or.inr ⟨hp, rfl, rfl⟩) dL_op_31
    · have hf : ft1 = 4 := hf
      subst hf
      refine ct_catch (E := (cCa 4).1) hown [⟨0, 13, 16, 13⟩, ⟨0, 13, 20, 15⟩, ⟨0, 13, 24, 17⟩, ⟨0, 13, 28, 19⟩] ⟨0, 13, 32, 21⟩ [⟨0, 13, 36, 23⟩, ⟨0, 13, 41, 25⟩] htab (fun z hz => by
        simp only [List.mem_cons, List.not_mem_nil, or_false] at hz
        rcases hz with rfl | rfl | rfl | rfl
        · exact ⟨by decide, by decide, _, hg _ wC_L_13, hN 0 4 (by decide) (by decide)⟩
        · exact ⟨by decide, by decide, _, hg _ wC_L_15, hN 1 4 (by decide) (by decide)⟩
        · exact ⟨by decide, by decide, _, hg _ wC_L_17, hN 2 4 (by decide) (by decide)⟩
        · exact ⟨by decide, by decide, _, hg _ wC_L_19, hN 3 4 (by decide) (by decide)⟩) (by decide) (by decide) (hg _ wC_L_21) (va_Nw.use rfl (hTx.2.1 4 (by decide))) hce hcv hcl ?_
      refine lv_astore (lv' := [(6, .ref q9), (0, .ref (g 0)), (1, .int w0), (2, .int a0), (3, .int b0), (4, .int c0), (5, .ref qo)]) hx hb dL_op_32 hl (by decide) rfl (fun ls hl => ?_)
      refine lv_iconst (v := 5) hx hb dL_op_34 (by decide) ?_
      refine vx_ret ?_
      refine W.widen (k := 18 * k0 + 1) (n := 101 * k0 + 8) (by show 0 + (18 * k0 + 1) ≤ 18 * k0 + 1; omega) (by show 0 + (101 * k0 + 8) ≤ 101 * k0 + 8; omega) ?_
      exact cr_i (wo := fun u : ((Nat → Option Nat) × Int64 × Int32 × Int32 × cZ × cQ) × (Nat → Int64) => lW g ty qo u.2 u.1) ((pl1, ac1, 4, md1, Z1, P1), o) hx hb hr hlk hS hPw hDw (Or.inr ⟨hp, rfl, rfl⟩) dL_op_35
    · have hf : ft1 = 5 := hf
      subst hf
      refine ct_catch (E := (cCa 5).1) hown [⟨0, 13, 16, 13⟩, ⟨0, 13, 20, 15⟩, ⟨0, 13, 24, 17⟩, ⟨0, 13, 28, 19⟩, ⟨0, 13, 32, 21⟩] ⟨0, 13, 36, 23⟩ [⟨0, 13, 41, 25⟩] htab (fun z hz => by
        simp only [List.mem_cons, List.not_mem_nil, or_false] at hz
        rcases hz with rfl | rfl | rfl | rfl | rfl
        · exact ⟨by decide, by decide, _, hg _ wC_L_13, hN 0 5 (by decide) (by decide)⟩
        · exact ⟨by decide, by decide, _, hg _ wC_L_15, hN 1 5 (by decide) (by decide)⟩
        · exact ⟨by decide, by decide, _, hg _ wC_L_17, hN 2 5 (by decide) (by decide)⟩
        · exact ⟨by decide, by decide, _, hg _ wC_L_19, hN 3 5 (by decide) (by decide)⟩
        · exact ⟨by decide, by decide, _, hg _ wC_L_21, hN 4 5 (by decide) (by decide)⟩) (by decide) (by decide) (hg _ wC_L_23) (va_Nw.use rfl (hTx.2.1 5 (by decide))) hce hcv hcl ?_
      refine lv_astore (lv' := [(6, .ref q9), (0, .ref (g 0)), (1, .int w0), (2, .int a0), (3, .int b0), (4, .int c0), (5, .ref qo)]) hx hb dL_op_36 hl (by decide) rfl (fun ls hl => ?_)
      refine lv_bipush (v := 6) hx hb dL_op_38 (by decide) ?_
      refine vx_ret ?_
      refine W.widen (k := 18 * k0 + 1) (n := 101 * k0 + 8) (by show 0 + (18 * k0 + 1) ≤ 18 * k0 + 1; omega) (by show 0 + (101 * k0 + 8) ≤ 101 * k0 + 8; omega) ?_
      exact cr_i (wo := fun u : ((Nat → Option Nat) × Int64 × Int32 × Int32 × cZ × cQ) × (Nat → Int64) => lW g ty qo u.2 u.1) ((pl1, ac1, 5, md1, Z1, P1), o) hx hb hr hlk hS hPw hDw (Or.inr ⟨hp, rfl, rfl⟩) dL_op_40
    · have hf : ft1 = 6 := hf
      subst hf
      refine ct_catch (E := (cCa 6).1) hown [⟨0, 13, 16, 13⟩, ⟨0, 13, 20, 15⟩, ⟨0, 13, 24, 17⟩, ⟨0, 13, 28, 19⟩, ⟨0, 13, 32, 21⟩, ⟨0, 13, 36, 23⟩] ⟨0, 13, 41, 25⟩ [] htab (fun z hz => by
        simp only [List.mem_cons, List.not_mem_nil, or_false] at hz
        rcases hz with rfl | rfl | rfl | rfl | rfl | rfl
        · exact ⟨by decide, by decide, _, hg _ wC_L_13, hN 0 6 (by decide) (by decide)⟩
        · exact ⟨by decide, by decide, _, hg _ wC_L_15, hN 1 6 (by decide) (by decide)⟩
        · exact ⟨by decide, by decide, _, hg _ wC_L_17, hN 2 6 (by decide) (by decide)⟩
        · exact ⟨by decide, by decide, _, hg _ wC_L_19, hN 3 6 (by decide) (by decide)⟩
        · exact ⟨by decide, by decide, _, hg _ wC_L_21, hN 4 6 (by decide) (by decide)⟩
        · exact ⟨by decide, by decide, _, hg _ wC_L_23, hN 5 6 (by decide) (by decide)⟩) (by decide) (by decide) (hg _ wC_L_25) (va_Nw.use rfl (hTx.2.1 6 (by decide))) hce hcv hcl ?_
      refine lv_astore (lv' := [(6, .ref q9), (0, .ref (g 0)), (1, .int w0), (2, .int a0), (3, .int b0), (4, .int c0), (5, .ref qo)]) hx hb dL_op_41 hl (by decide) rfl (fun ls hl => ?_)
      refine lv_bipush (v := 7) hx hb dL_op_43 (by decide) ?_
      refine vx_ret ?_
      refine W.widen (k := 18 * k0 + 1) (n := 101 * k0 + 8) (by show 0 + (18 * k0 + 1) ≤ 18 * k0 + 1; omega) (by show 0 + (101 * k0 + 8) ≤ 101 * k0 + 8; omega) ?_
      exact cr_i (wo := fun u : ((Nat → Option Nat) × Int64 × Int32 × Int32 × cZ × cQ) × (Nat → Int64) => lW g ty qo u.2 u.1) ((pl1, ac1, 6, md1, Z1, P1), o) hx hb hr hlk hS hPw hDw (Or.inr ⟨hp, rfl, rfl⟩) dL_op_45
  · obtain ⟨hP1, hB2⟩ := hB
    rw [ht] at hP1
    have hPw := (fr_keep hPo hdj.sy hk1).app hP1
    have hDw := app_D hDo (fr_D hB2 hF) (fr_dj hPo hdj.sy hB2).sy
    refine va_last hx hb hK hPw hDw hS 0 2 rfl rfl (i32_in (by decide) (by decide)) dL_op_12 (fun H locs hPw hDw hS => ?_)
    refine lv_goto (tgt := 46) hx hb dL_op_13 (by decide) ?_
    refine lv_iconst (v := 0) hx hb dL_op_46 (by decide) ?_
    refine vx_ret ?_
    refine W.widen (k := 18 * k0 + 1) (n := 101 * k0 + 8) (by show 0 + (18 * k0 + 1) ≤ 18 * k0 + 1; omega) (by show 0 + (101 * k0 + 8) ≤ 101 * k0 + 8; omega) ?_
    exact cr_i (wo := fun u : ((Nat → Option Nat) × Int64 × Int32 × Int32 × cZ × cQ) × (Nat → Int64) => lW g ty qo u.2 u.1) ((u.1, ac, u.2.1, u.2.2.1, u.2.2.2.1, u.2.2.2.2), vp_updL o 0 r) hx hb hr hlk hS hPw hDw (Or.inl ⟨rfl, r, u, hp, rfl⟩) dL_op_47
set_option maxHeartbeats 1600000 in
set_option maxRecDepth 100000 in
theorem c_L_load (l : Launch) (dC : Nat → ClassId) (dI : Nat → Nat → Nat) (g : Nat → Nat) (ty : Nat → ClassId) (sz tot : Nat) (pl : Nat → Option Nat) (ac : Int64) (ft : Int32) (md : Int32) (Z : cZ) (P : cQ) (qo : Nat) (o : Nat → Int64) (i0 w0 a0 b0 c0 : Int32) (hlt : l.stackTraces = false) : vx_Met l yL_load (Cond.codeWith yL_load cL_load 8 (some .int) [(0, 16, 19, 17)] :: gT) ({ frames := 9, cells := 1, slots := 8, locals := 167 }) (cPh (dC, dI) (cTy ty) (lW g ty qo o (pl, ac, ft, md, Z, P)) sz tot [.ref (g 0), .int i0, .int w0, .int a0, .int b0, .int c0, .ref qo]) (va_Qi (fun (k : Int32) (u : ((Nat → Option Nat) × Int64 × Int32 × Int32 × cZ × cQ) × (Nat → Int64)) => (k = 0 ∧ u = ((pl, ac, ft, md, zLoad Z i0 w0 a0 b0 c0, P), vp_updL o 0 i0.toInt64) ∧ ¬ i0 < 0 ∧ i0 < 256) ∨ (k = 1 ∧ u = ((pl, ac, ft, md, Z, P), o) ∧ (i0 < 0 ∨ ¬ i0 < 256))) (cB (dC, dI) (fun u : ((Nat → Option Nat) × Int64 × Int32 × Int32 × cZ × cQ) × (Nat → Int64) => lW g ty qo u.2 u.1) (va_A (lW g ty qo o (pl, ac, ft, md, Z, P)) sz)) (va_A (lW g ty qo o (pl, ac, ft, md, Z, P)) sz)) (cXn (va_A (lW g ty qo o (pl, ac, ft, md, Z, P)) sz)) (1) (8) (va_A (lW g ty qo o (pl, ac, ft, md, Z, P)) sz) := by
  refine ch_of (Qa := fun A => va_Qi (fun (k : Int32) (u : ((Nat → Option Nat) × Int64 × Int32 × Int32 × cZ × cQ) × (Nat → Int64)) => (k = 0 ∧ u = ((pl, ac, ft, md, zLoad Z i0 w0 a0 b0 c0, P), vp_updL o 0 i0.toInt64) ∧ ¬ i0 < 0 ∧ i0 < 256) ∨ (k = 1 ∧ u = ((pl, ac, ft, md, Z, P), o) ∧ (i0 < 0 ∨ ¬ i0 < 256))) (cB (dC, dI) (fun u : ((Nat → Option Nat) × Int64 × Int32 × Int32 × cZ × cQ) × (Nat → Int64) => lW g ty qo u.2 u.1) A) A) (by decide) (Nat.le_of_ble_eq_true rfl) ?_
  intro p e s m below meth c A hx hb hr hml htab hown hg hlk hP hK hD hT hTx hN hZ hS hA hsz htot ls hl
  have hown : s.vm.findClass RL = some m.cls := hown
  obtain ⟨hPo, hPc⟩ := cons_P hP
  obtain ⟨hDo, hDc, hdj⟩ := cons_D hD
  have hF := cc_free hDc hS hA
  have hl : lv_has ls 8 [(0, .ref (g 0)), (1, .int i0), (2, .int w0), (3, .int a0), (4, .int b0), (5, .int c0), (6, .ref qo)] := hl
  refine lv_aload hx hb dL_load_0 (lv_at hl 6 rfl) ?_
  refine lv_iconst (v := 0) hx hb dL_load_2 (by decide) ?_
  refine lv_aload_n hx hb dL_load_3 rfl (lv_at hl 0 rfl) ?_
  refine lv_iload_n hx hb dL_load_4 rfl (lv_at hl 1 rfl) ?_
  refine lv_iload_n hx hb dL_load_5 rfl (lv_at hl 2 rfl) ?_
  refine lv_iload_n hx hb dL_load_6 rfl (lv_at hl 3 rfl) ?_
  refine lv_iload hx hb dL_load_7 (lv_at hl 4 rfl) ?_
  refine lv_iload hx hb dL_load_9 (lv_at hl 5 rfl) ?_
  refine vx_calli (vx_runV (C := RX11) (n := 5) (As := [.int i0, .int w0, .int a0, .int b0, .int c0]) (rest := [.int 0, .ref qo]) ⟨hx, hb, hml, hown, hg⟩ (c_X11_load l dC dI g ty s.heap.size pl ac ft md Z P i0 w0 a0 b0 c0 hlt) (cv_of hg wM_L_27 wN_X11_load wL_X11_X11_load wK_X11_load wI_X11 (by decide +kernel) ⟨Nat.le_of_ble_eq_true rfl, Nat.le_of_ble_eq_true rfl⟩) (cx_preV hPc hK hDc hT hTx hZ hS hA (va_recv hK hPc (ci := 13) (q0 := 0) rfl rfl)) rfl rfl hl.1 rfl (lv_room (Nat.le_of_ble_eq_true rfl)) dL_load_11 ⟨Nat.le_of_ble_eq_true rfl, Nat.le_of_ble_eq_true rfl⟩) hS (fun q _ h => hF q h) hF (fun q _ h => hF q h) (fun E ce q9 u t H1 locs1 ht hvm hp hB hsz1 hk1 hS hce hcv hcl => ?_) (fun r u t H1 locs1 ht hvm hp hB hsz1 hk1 hS => ?_)
  · obtain ⟨rfl, hP1, hB2⟩ := hB
    rw [ht] at hP1
    have hPw := (fr_keep hPo hdj.sy hk1).app hP1
    have hDw := app_D hDo (fr_D hB2 hF) (fr_dj hPo hdj.sy hB2).sy
    obtain ⟨rfl, hp⟩ := hp
    refine ct_catch (E := (cCa 2).1) hown [] ⟨0, 16, 19, 17⟩ [] htab (fun z hz => by cases hz) (by decide) (by decide) (hg _ wC_L_17) (va_Nw.use rfl (hTx.2.1 2 (by decide))) hce hcv hcl ?_
    refine lv_astore (lv' := [(7, .ref q9), (0, .ref (g 0)), (1, .int i0), (2, .int w0), (3, .int a0), (4, .int b0), (5, .int c0), (6, .ref qo)]) hx hb dL_load_19 hl (by decide) rfl (fun ls hl => ?_)
    refine lv_iconst (v := 1) hx hb dL_load_21 (by decide) ?_
    refine vx_ret ?_
    refine W.widen (k := 1) (n := 8) (Nat.le_of_ble_eq_true rfl) (Nat.le_of_ble_eq_true rfl) ?_
    exact cr_i (wo := fun u : ((Nat → Option Nat) × Int64 × Int32 × Int32 × cZ × cQ) × (Nat → Int64) => lW g ty qo u.2 u.1) ((pl, ac, ft, md, Z, P), o) hx hb hr hlk hS hPw hDw (Or.inr ⟨rfl, rfl, hp⟩) dL_load_22
  · obtain ⟨hP1, hB2⟩ := hB
    rw [ht] at hP1
    obtain ⟨rfl, rfl, hp⟩ := hp
    have hPw := (fr_keep hPo hdj.sy hk1).app hP1
    have hDw := app_D hDo (fr_D hB2 hF) (fr_dj hPo hdj.sy hB2).sy
    refine lv_i2l (v := i0.toInt64) hx hb dL_load_14 rfl ?_
    refine va_last hx hb hK hPw hDw hS 0 2 rfl rfl (i32_in (by decide) (by decide)) dL_load_15 (fun H locs hPw hDw hS => ?_)
    refine lv_goto (tgt := 23) hx hb dL_load_16 (by decide) ?_
    refine lv_iconst (v := 0) hx hb dL_load_23 (by decide) ?_
    refine vx_ret ?_
    refine W.widen (k := 1) (n := 8) (Nat.le_of_ble_eq_true rfl) (Nat.le_of_ble_eq_true rfl) ?_
    exact cr_i (wo := fun u : ((Nat → Option Nat) × Int64 × Int32 × Int32 × cZ × cQ) × (Nat → Int64) => lW g ty qo u.2 u.1) ((pl, ac, ft, md, zLoad Z i0 w0 a0 b0 c0, P), vp_updL o 0 i0.toInt64) hx hb hr hlk hS hPw hDw (Or.inl ⟨rfl, rfl, hp⟩) dL_load_24
set_option maxHeartbeats 1600000 in
set_option maxRecDepth 100000 in
theorem c_L_run (l : Launch) (dC : Nat → ClassId) (dI : Nat → Nat → Nat) (g : Nat → Nat) (ty : Nat → ClassId) (sz tot : Nat) (pl : Nat → Option Nat) (ac : Int64) (ft : Int32) (md : Int32) (Z : cZ) (P : cQ) (qo : Nat) (o : Nat → Int64) (i0 f0 : Int32) (wf : cWF pl P) (pre0 : zOk Z) (pre1 : 0 ≤ md ∧ md ≤ 6000) (hlt : l.stackTraces = false) : vx_Met l yL_run (Cond.codeWith yL_run cL_run 5 (some .int) [(0, 10, 13, 13), (0, 10, 17, 15), (0, 10, 21, 17), (0, 10, 25, 19), (0, 10, 29, 21), (0, 10, 33, 23), (0, 10, 38, 25)] :: gT) ({ frames := 11, cells := 18 * (6000 - md.toNatClampNeg) + 1, slots := 101 * (6000 - md.toNatClampNeg) + 8, locals := 433 }) (cPh (dC, dI) (cTy ty) (lW g ty qo o (pl, ac, ft, md, Z, P)) sz tot [.ref (g 0), .int i0, .int f0, .ref qo]) (va_Qi (fun (k : Int32) (u : ((Nat → Option Nat) × Int64 × Int32 × Int32 × cZ × cQ) × (Nat → Int64)) => (k = 0 ∧ ∃ rz : Int32, q_X11_run i0 f0 pl ac ft md Z P rz u.1 ∧ u.2 = vp_updL o 0 rz.toInt64) ∨ (px_X11_run i0 f0 pl ac ft md Z P u.1 ∧ k = u.1.2.2.1 + 1 ∧ u.2 = o)) (cBg (dC, dI) (fun u : ((Nat → Option Nat) × Int64 × Int32 × Int32 × cZ × cQ) × (Nat → Int64) => lW g ty qo u.2 u.1) (va_A (lW g ty qo o (pl, ac, ft, md, Z, P)) sz) sz tot (fun u : ((Nat → Option Nat) × Int64 × Int32 × Int32 × cZ × cQ) × (Nat → Int64) => 18 * (u.1.2.2.2.1.toNatClampNeg - md.toNatClampNeg) + 1) (fun u : ((Nat → Option Nat) × Int64 × Int32 × Int32 × cZ × cQ) × (Nat → Int64) => 101 * (u.1.2.2.2.1.toNatClampNeg - md.toNatClampNeg) + 8)) (va_A (lW g ty qo o (pl, ac, ft, md, Z, P)) sz)) (cXn (va_A (lW g ty qo o (pl, ac, ft, md, Z, P)) sz)) (18 * (6000 - md.toNatClampNeg) + 1) (101 * (6000 - md.toNatClampNeg) + 8) (va_A (lW g ty qo o (pl, ac, ft, md, Z, P)) sz) := by
  refine ch_of (Qa := fun A => va_Qi (fun (k : Int32) (u : ((Nat → Option Nat) × Int64 × Int32 × Int32 × cZ × cQ) × (Nat → Int64)) => (k = 0 ∧ ∃ rz : Int32, q_X11_run i0 f0 pl ac ft md Z P rz u.1 ∧ u.2 = vp_updL o 0 rz.toInt64) ∨ (px_X11_run i0 f0 pl ac ft md Z P u.1 ∧ k = u.1.2.2.1 + 1 ∧ u.2 = o)) (cBg (dC, dI) (fun u : ((Nat → Option Nat) × Int64 × Int32 × Int32 × cZ × cQ) × (Nat → Int64) => lW g ty qo u.2 u.1) A sz tot (fun u : ((Nat → Option Nat) × Int64 × Int32 × Int32 × cZ × cQ) × (Nat → Int64) => 18 * (u.1.2.2.2.1.toNatClampNeg - md.toNatClampNeg) + 1) (fun u : ((Nat → Option Nat) × Int64 × Int32 × Int32 × cZ × cQ) × (Nat → Int64) => 101 * (u.1.2.2.2.1.toNatClampNeg - md.toNatClampNeg) + 8)) A) (by decide) (Nat.le_of_ble_eq_true rfl) ?_
  intro p e s m below meth c A hx hb hr hml htab hown hg hlk hP hK hD hT hTx hN hZ hS hA hsz htot ls hl
  have hown : s.vm.findClass RL = some m.cls := hown
  obtain ⟨hPo, hPc⟩ := cons_P hP
  obtain ⟨hDo, hDc, hdj⟩ := cons_D hD
  have hF := cc_free hDc hS hA
  have hl : lv_has ls 5 [(0, .ref (g 0)), (1, .int i0), (2, .int f0), (3, .ref qo)] := hl
  refine lv_aload_n hx hb dL_run_0 rfl (lv_at hl 3 rfl) ?_
  refine lv_iconst (v := 0) hx hb dL_run_1 (by decide) ?_
  refine lv_aload_n hx hb dL_run_2 rfl (lv_at hl 0 rfl) ?_
  refine lv_iload_n hx hb dL_run_3 rfl (lv_at hl 1 rfl) ?_
  refine lv_iload_n hx hb dL_run_4 rfl (lv_at hl 2 rfl) ?_
  refine vx_calli (vx_runV (C := RX11) (n := 2) (As := [.int i0, .int f0]) (rest := [.int 0, .ref qo]) ⟨hx, hb, hml, hown, hg⟩ (c_X11_run l dC dI g ty s.heap.size (hsum s.heap) pl ac ft md Z P i0 f0 wf pre0 pre1 hlt) (cv_of hg wM_L_31 wN_X11_run wL_X11_X11_run wK_X11_run wI_X11 (by decide +kernel) ⟨Nat.le_of_ble_eq_true rfl, Nat.le_of_ble_eq_true rfl⟩) (ch_preV hPc hK hDc hT hTx hZ hS hA (va_recv hK hPc (ci := 13) (q0 := 0) rfl rfl)) rfl rfl hl.1 rfl (lv_room (Nat.le_of_ble_eq_true rfl)) dL_run_5 ⟨by show 0 + (18 * (6000 - md.toNatClampNeg) + 1) ≤ 18 * (6000 - md.toNatClampNeg) + 1; omega, by show 0 + (101 * (6000 - md.toNatClampNeg) + 8) ≤ 101 * (6000 - md.toNatClampNeg) + 8; omega⟩) hS (fun q _ h => hF q h) hF (fun q _ h => hF q h) (fun E ce q9 u t H1 locs1 ht hvm hp hB hsz1 hk1 hS hce hcv hcl => ?_) (fun r u t H1 locs1 ht hvm hp hB hsz1 hk1 hS => ?_)
  · obtain ⟨⟨rfl, hP1, hB2⟩, gb1, gb2⟩ := hB
    rw [ht] at hP1 gb1 gb2
    have hPw := (fr_keep hPo hdj.sy hk1).app hP1
    have hDw := app_D hDo (fr_D hB2 hF) (fr_dj hPo hdj.sy hB2).sy
    have hf7 : ∃ k : Nat, k < 7 ∧ u.2.2.1 = nI k := run_f7 wf pre0 pre1 hp
    obtain ⟨pl1, ac1, ft1, md1, Z1, P1⟩ := u
    rcases f7 hf7 with hf | hf | hf | hf | hf | hf | hf
    · have hf : ft1 = 0 := hf
      subst hf
      refine ct_catch (E := (cCa 0).1) hown [] ⟨0, 10, 13, 13⟩ [⟨0, 10, 17, 15⟩, ⟨0, 10, 21, 17⟩, ⟨0, 10, 25, 19⟩, ⟨0, 10, 29, 21⟩, ⟨0, 10, 33, 23⟩, ⟨0, 10, 38, 25⟩] htab (fun z hz => by cases hz) (by decide) (by decide) (hg _ wC_L_13) (va_Nw.use rfl (hTx.2.1 0 (by decide))) hce hcv hcl ?_
      refine lv_astore (lv' := [(4, .ref q9), (0, .ref (g 0)), (1, .int i0), (2, .int f0), (3, .ref qo)]) hx hb dL_run_13 hl (by decide) rfl (fun ls hl => ?_)
      refine lv_iconst (v := 1) hx hb dL_run_15 (by decide) ?_
      refine vx_ret ?_
      refine W.widen (k := 18 * (6000 - md.toNatClampNeg) + 1) (n := 101 * (6000 - md.toNatClampNeg) + 8) (by show 0 + (18 * (6000 - md.toNatClampNeg) + 1) ≤ 18 * (6000 - md.toNatClampNeg) + 1; omega) (by show 0 + (101 * (6000 - md.toNatClampNeg) + 8) ≤ 101 * (6000 - md.toNatClampNeg) + 8; omega) ?_
      exact gr_i (wo := fun u : ((Nat → Option Nat) × Int64 × Int32 × Int32 × cZ × cQ) × (Nat → Int64) => lW g ty qo u.2 u.1) (f := fun u : ((Nat → Option Nat) × Int64 × Int32 × Int32 × cZ × cQ) × (Nat → Int64) => 18 * (u.1.2.2.2.1.toNatClampNeg - md.toNatClampNeg) + 1) (g := fun u : ((Nat → Option Nat) × Int64 × Int32 × Int32 × cZ × cQ) × (Nat → Int64) => 101 * (u.1.2.2.2.1.toNatClampNeg - md.toNatClampNeg) + 8) ((pl1, ac1, 0, md1, Z1, P1), o) hx hb hr hlk hS hPw hDw (by rw [← hsz]; exact gb1) (by rw [← htot]; exact gb2) (Or.inr ⟨hp, rfl, rfl⟩) dL_run_16
    · have hf : ft1 = 1 := hf
      subst hf
      refine ct_catch (E := (cCa 1).1) hown [⟨0, 10, 13, 13⟩] ⟨0, 10, 17, 15⟩ [⟨0, 10, 21, 17⟩, ⟨0, 10, 25, 19⟩, ⟨0, 10, 29, 21⟩, ⟨0, 10, 33, 23⟩, ⟨0, 10, 38, 25⟩] htab (fun z hz => by
        simp only [List.mem_cons, List.not_mem_nil, or_false] at hz
        rcases hz with rfl
        · exact ⟨by decide, by decide, _, hg _ wC_L_13, hN 0 1 (by decide) (by decide)⟩) (by decide) (by decide) (hg _ wC_L_15) (va_Nw.use rfl (hTx.2.1 1 (by decide))) hce hcv hcl ?_
      refine lv_astore (lv' := [(4, .ref q9), (0, .ref (g 0)), (1, .int i0), (2, .int f0), (3, .ref qo)]) hx hb dL_run_17 hl (by decide) rfl (fun ls hl => ?_)
      refine lv_iconst (v := 2) hx hb dL_run_19 (by decide) ?_
      refine vx_ret ?_
      refine W.widen (k := 18 * (6000 - md.toNatClampNeg) + 1) (n := 101 * (6000 - md.toNatClampNeg) + 8) (by show 0 + (18 * (6000 - md.toNatClampNeg) + 1) ≤ 18 * (6000 - md.toNatClampNeg) + 1; omega) (by show 0 + (101 * (6000 - md.toNatClampNeg) + 8) ≤ 101 * (6000 - md.toNatClampNeg) + 8; omega) ?_
      exact gr_i (wo := fun u : ((Nat → Option Nat) × Int64 × Int32 × Int32 × cZ × cQ) × (Nat → Int64) => lW g ty qo u.2 u.1) (f := fun u : ((Nat → Option Nat) × Int64 × Int32 × Int32 × cZ × cQ) × (Nat → Int64) => 18 * (u.1.2.2.2.1.toNatClampNeg - md.toNatClampNeg) + 1) (g := fun u : ((Nat → Option Nat) × Int64 × Int32 × Int32 × cZ × cQ) × (Nat → Int64) => 101 * (u.1.2.2.2.1.toNatClampNeg - md.toNatClampNeg) + 8) ((pl1, ac1, 1, md1, Z1, P1), o) hx hb hr hlk hS hPw hDw (by rw [← hsz]; exact gb1) (by rw [← htot]; exact gb2) (Or.inr ⟨hp, rfl, rfl⟩) dL_run_20
    · have hf : ft1 = 2 := hf
      subst hf
      refine ct_catch (E := (cCa 2).1) hown [⟨0, 10, 13, 13⟩, ⟨0, 10, 17, 15⟩] ⟨0, 10, 21, 17⟩ [⟨0, 10, 25, 19⟩, ⟨0, 10, 29, 21⟩, ⟨0, 10, 33, 23⟩, ⟨0, 10, 38, 25⟩] htab (fun z hz => by
        simp only [List.mem_cons, List.not_mem_nil, or_false] at hz
        rcases hz with rfl | rfl
        · exact ⟨by decide, by decide, _, hg _ wC_L_13, hN 0 2 (by decide) (by decide)⟩
        · exact ⟨by decide, by decide, _, hg _ wC_L_15, hN 1 2 (by decide) (by decide)⟩) (by decide) (by decide) (hg _ wC_L_17) (va_Nw.use rfl (hTx.2.1 2 (by decide))) hce hcv hcl ?_
      refine lv_astore (lv' := [(4, .ref q9), (0, .ref (g 0)), (1, .int i0), (2, .int f0), (3, .ref qo)]) hx hb dL_run_21 hl (by decide) rfl (fun ls hl => ?_)
      refine lv_iconst (v := 3) hx hb dL_run_23 (by decide) ?_
      refine vx_ret ?_
      refine W.widen (k := 18 * (6000 - md.toNatClampNeg) + 1) (n := 101 * (6000 - md.toNatClampNeg) + 8) (by show 0 + (18 * (6000 - md.toNatClampNeg) + 1) ≤ 18 * (6000 - md.toNatClampNeg) + 1; omega) (by show 0 + (101 * (6000 - md.toNatClampNeg) + 8) ≤ 101 * (6000 - md.toNatClampNeg) + 8; omega) ?_
      exact gr_i (wo := fun u : ((Nat → Option Nat) × Int64 × Int32 × Int32 × cZ × cQ) × (Nat → Int64) => lW g ty qo u.2 u.1) (f := fun u : ((Nat → Option Nat) × Int64 × Int32 × Int32 × cZ × cQ) × (Nat → Int64) => 18 * (u.1.2.2.2.1.toNatClampNeg - md.toNatClampNeg) + 1) (g := fun u : ((Nat → Option Nat) × Int64 × Int32 × Int32 × cZ × cQ) × (Nat → Int64) => 101 * (u.1.2.2.2.1.toNatClampNeg - md.toNatClampNeg) + 8) ((pl1, ac1, 2, md1, Z1, P1), o) hx hb hr hlk hS hPw hDw (by rw [← hsz]; exact gb1) (by rw [← htot]; exact gb2) (Or.inr ⟨hp, rfl, rfl⟩) dL_run_24
    · have hf : ft1 = 3 := hf
      subst hf
      refine ct_catch (E := (cCa 3).1) hown [⟨0, 10, 13, 13⟩, ⟨0, 10, 17, 15⟩, ⟨0, 10, 21, 17⟩] ⟨0, 10, 25, 19⟩ [⟨0, 10, 29, 21⟩, ⟨0, 10, 33, 23⟩, ⟨0, 10, 38, 25⟩] htab (fun z hz => by
        simp only [List.mem_cons, List.not_mem_nil, or_false] at hz
        rcases hz with rfl | rfl | rfl
        · exact ⟨by decide, by decide, _, hg _ wC_L_13, hN 0 3 (by decide) (by decide)⟩
        · exact ⟨by decide, by decide, _, hg _ wC_L_15, hN 1 3 (by decide) (by decide)⟩
        · exact ⟨by decide, by decide, _, hg _ wC_L_17, hN 2 3 (by decide) (by decide)⟩) (by decide) (by decide) (hg _ wC_L_19) (va_Nw.use rfl (hTx.2.1 3 (by decide))) hce hcv hcl ?_
      refine lv_astore (lv' := [(4, .ref q9), (0, .ref (g 0)), (1, .int i0), (2, .int f0), (3, .ref qo)]) hx hb dL_run_25 hl (by decide) rfl (fun ls hl => ?_)
      refine lv_iconst (v := 4) hx hb dL_run_27 (by decide) ?_
      refine vx_ret ?_
      refine W.widen (k := 18 * (6000 - md.toNatClampNeg) + 1) (n := 101 * (6000 - md.toNatClampNeg) + 8) (by show 0 + (18 * (6000 - md.toNatClampNeg) + 1) ≤ 18 * (6000 - md.toNatClampNeg) + 1; omega) (by show 0 + (101 * (6000 - md.toNatClampNeg) + 8) ≤ 101 * (6000 - md.toNatClampNeg) + 8; omega) ?_
      exact gr_i (wo := fun u : ((Nat → Option Nat) × Int64 × Int32 × Int32 × cZ × cQ) × (Nat → Int64) => lW g ty qo u.2 u.1) (f := fun u : ((Nat → Option Nat) × Int64 × Int32 × Int32 × cZ × cQ) × (Nat → Int64) => 18 * (u.1.2.2.2.1.toNatClampNeg - md.toNatClampNeg) + 1) (g := fun u : ((Nat → Option Nat) × Int64 × Int32 × Int32 × cZ × cQ) × (Nat → Int64) => 101 * (u.1.2.2.2.1.toNatClampNeg - md.toNatClampNeg) + 8) ((pl1, ac1, 3, md1, Z1, P1), o) hx hb hr hlk hS hPw hDw (by rw [← hsz]; exact gb1) (by rw [← htot]; exact gb2) (Or.inr ⟨hp, rfl, rfl⟩) dL_run_28
    · have hf : ft1 = 4 := hf
      subst hf
      refine ct_catch (E := (cCa 4).1) hown [⟨0, 10, 13, 13⟩, ⟨0, 10, 17, 15⟩, ⟨0, 10, 21, 17⟩, ⟨0, 10, 25, 19⟩] ⟨0, 10, 29, 21⟩ [⟨0, 10, 33, 23⟩, ⟨0, 10, 38, 25⟩] htab (fun z hz => by
        simp only [List.mem_cons, List.not_mem_nil, or_false] at hz
        rcases hz with rfl | rfl | rfl | rfl
        · exact ⟨by decide, by decide, _, hg _ wC_L_13, hN 0 4 (by decide) (by decide)⟩
        · exact ⟨by decide, by decide, _, hg _ wC_L_15, hN 1 4 (by decide) (by decide)⟩
        · exact ⟨by decide, by decide, _, hg _ wC_L_17, hN 2 4 (by decide) (by decide)⟩
        · exact ⟨by decide, by decide, _, hg _ wC_L_19, hN 3 4 (by decide) (by decide)⟩) (by decide) (by decide) (hg _ wC_L_21) (va_Nw.use rfl (hTx.2.1 4 (by decide))) hce hcv hcl ?_
      refine lv_astore (lv' := [(4, .ref q9), (0, .ref (g 0)), (1, .int i0), (2, .int f0), (3, .ref qo)]) hx hb dL_run_29 hl (by decide) rfl (fun ls hl => ?_)
      refine lv_iconst (v := 5) hx hb dL_run_31 (by decide) ?_
      refine vx_ret ?_
      refine W.widen (k := 18 * (6000 - md.toNatClampNeg) + 1) (n := 101 * (6000 - md.toNatClampNeg) + 8) (by show 0 + (18 * (6000 - md.toNatClampNeg) + 1) ≤ 18 * (6000 - md.toNatClampNeg) + 1; omega) (by show 0 + (101 * (6000 - md.toNatClampNeg) + 8) ≤ 101 * (6000 - md.toNatClampNeg) + 8; omega) ?_
      exact gr_i (wo := fun u : ((Nat → Option Nat) × Int64 × Int32 × Int32 × cZ × cQ) × (Nat → Int64) => lW g ty qo u.2 u.1) (f := fun u : ((Nat → Option Nat) × Int64 × Int32 × Int32 × cZ × cQ) × (Nat → Int64) => 18 * (u.1.2.2.2.1.toNatClampNeg - md.toNatClampNeg) + 1) (g := fun u : ((Nat → Option Nat) × Int64 × Int32 × Int32 × cZ × cQ) × (Nat → Int64) => 101 * (u.1.2.2.2.1.toNatClampNeg - md.toNatClampNeg) + 8) ((pl1, ac1, 4, md1, Z1, P1), o) hx hb hr hlk hS hPw hDw (by rw [← hsz]; exact gb1) (by rw [← htot]; exact gb2) (Or.inr ⟨hp, rfl, rfl⟩) dL_run_32
    · have hf : ft1 = 5 := hf
      subst hf
      refine ct_catch (E := (cCa 5).1) hown [⟨0, 10, 13, 13⟩, ⟨0, 10, 17, 15⟩, ⟨0, 10, 21, 17⟩, ⟨0, 10, 25, 19⟩, ⟨0, 10, 29, 21⟩] ⟨0, 10, 33, 23⟩ [⟨0, 10, 38, 25⟩] htab (fun z hz => by
        simp only [List.mem_cons, List.not_mem_nil, or_false] at hz
        rcases hz with rfl | rfl | rfl | rfl | rfl
        · exact ⟨by decide, by decide, _, hg _ wC_L_13, hN 0 5 (by decide) (by decide)⟩
        · exact ⟨by decide, by decide, _, hg _ wC_L_15, hN 1 5 (by decide) (by decide)⟩
        · exact ⟨by decide, by decide, _, hg _ wC_L_17, hN 2 5 (by decide) (by decide)⟩
        · exact ⟨by decide, by decide, _, hg _ wC_L_19, hN 3 5 (by decide) (by decide)⟩
        · exact ⟨by decide, by decide, _, hg _ wC_L_21, hN 4 5 (by decide) (by decide)⟩) (by decide) (by decide) (hg _ wC_L_23) (va_Nw.use rfl (hTx.2.1 5 (by decide))) hce hcv hcl ?_
      refine lv_astore (lv' := [(4, .ref q9), (0, .ref (g 0)), (1, .int i0), (2, .int f0), (3, .ref qo)]) hx hb dL_run_33 hl (by decide) rfl (fun ls hl => ?_)
      refine lv_bipush (v := 6) hx hb dL_run_35 (by decide) ?_
      refine vx_ret ?_
      refine W.widen (k := 18 * (6000 - md.toNatClampNeg) + 1) (n := 101 * (6000 - md.toNatClampNeg) + 8) (by show 0 + (18 * (6000 - md.toNatClampNeg) + 1) ≤ 18 * (6000 - md.toNatClampNeg) + 1; omega) (by show 0 + (101 * (6000 - md.toNatClampNeg) + 8) ≤ 101 * (6000 - md.toNatClampNeg) + 8; omega) ?_
      exact gr_i (wo := fun u : ((Nat → Option Nat) × Int64 × Int32 × Int32 × cZ × cQ) × (Nat → Int64) => lW g ty qo u.2 u.1) (f := fun u : ((Nat → Option Nat) × Int64 × Int32 × Int32 × cZ × cQ) × (Nat → Int64) => 18 * (u.1.2.2.2.1.toNatClampNeg - md.toNatClampNeg) + 1) (g := fun u : ((Nat → Option Nat) × Int64 × Int32 × Int32 × cZ × cQ) × (Nat → Int64) => 101 * (u.1.2.2.2.1.toNatClampNeg - md.toNatClampNeg) + 8) ((pl1, ac1, 5, md1, Z1, P1), o) hx hb hr hlk hS hPw hDw (by rw [← hsz]; exact gb1) (by rw [← htot]; exact gb2) (Or.inr ⟨hp, rfl, rfl⟩) dL_run_37
    · have hf : ft1 = 6 := hf
      subst hf
      refine ct_catch (E := (cCa 6).1) hown [⟨0, 10, 13, 13⟩, ⟨0, 10, 17, 15⟩, ⟨0, 10, 21, 17⟩, ⟨0, 10, 25, 19⟩, ⟨0, 10, 29, 21⟩, ⟨0, 10, 33, 23⟩] ⟨0, 10, 38, 25⟩ [] htab (fun z hz => by
        simp only [List.mem_cons, List.not_mem_nil, or_false] at hz
        rcases hz with rfl | rfl | rfl | rfl | rfl | rfl
        · exact ⟨by decide, by decide, _, hg _ wC_L_13, hN 0 6 (by decide) (by decide)⟩
        · exact ⟨by decide, by decide, _, hg _ wC_L_15, hN 1 6 (by decide) (by decide)⟩
        · exact ⟨by decide, by decide, _, hg _ wC_L_17, hN 2 6 (by decide) (by decide)⟩
        · exact ⟨by decide, by decide, _, hg _ wC_L_19, hN 3 6 (by decide) (by decide)⟩
        · exact ⟨by decide, by decide, _, hg _ wC_L_21, hN 4 6 (by decide) (by decide)⟩
        · exact ⟨by decide, by decide, _, hg _ wC_L_23, hN 5 6 (by decide) (by decide)⟩) (by decide) (by decide) (hg _ wC_L_25) (va_Nw.use rfl (hTx.2.1 6 (by decide))) hce hcv hcl ?_
      refine lv_astore (lv' := [(4, .ref q9), (0, .ref (g 0)), (1, .int i0), (2, .int f0), (3, .ref qo)]) hx hb dL_run_38 hl (by decide) rfl (fun ls hl => ?_)
      refine lv_bipush (v := 7) hx hb dL_run_40 (by decide) ?_
      refine vx_ret ?_
      refine W.widen (k := 18 * (6000 - md.toNatClampNeg) + 1) (n := 101 * (6000 - md.toNatClampNeg) + 8) (by show 0 + (18 * (6000 - md.toNatClampNeg) + 1) ≤ 18 * (6000 - md.toNatClampNeg) + 1; omega) (by show 0 + (101 * (6000 - md.toNatClampNeg) + 8) ≤ 101 * (6000 - md.toNatClampNeg) + 8; omega) ?_
      exact gr_i (wo := fun u : ((Nat → Option Nat) × Int64 × Int32 × Int32 × cZ × cQ) × (Nat → Int64) => lW g ty qo u.2 u.1) (f := fun u : ((Nat → Option Nat) × Int64 × Int32 × Int32 × cZ × cQ) × (Nat → Int64) => 18 * (u.1.2.2.2.1.toNatClampNeg - md.toNatClampNeg) + 1) (g := fun u : ((Nat → Option Nat) × Int64 × Int32 × Int32 × cZ × cQ) × (Nat → Int64) => 101 * (u.1.2.2.2.1.toNatClampNeg - md.toNatClampNeg) + 8) ((pl1, ac1, 6, md1, Z1, P1), o) hx hb hr hlk hS hPw hDw (by rw [← hsz]; exact gb1) (by rw [← htot]; exact gb2) (Or.inr ⟨hp, rfl, rfl⟩) dL_run_42
  · obtain ⟨⟨hP1, hB2⟩, gb1, gb2⟩ := hB
    rw [ht] at hP1 gb1 gb2
    have hPw := (fr_keep hPo hdj.sy hk1).app hP1
    have hDw := app_D hDo (fr_D hB2 hF) (fr_dj hPo hdj.sy hB2).sy
    refine lv_i2l (v := r.toInt64) hx hb dL_run_8 rfl ?_
    refine W.tight (k := 18 * (u.2.2.2.1.toNatClampNeg - md.toNatClampNeg) + 1) (n := 101 * (u.2.2.2.1.toNatClampNeg - md.toNatClampNeg) + 8) gb1 gb2 ?_
    refine va_last hx hb hK hPw hDw hS 0 2 rfl rfl (i32_in (by decide) (by decide)) dL_run_9 (fun H locs hPw hDw hS => ?_)
    refine lv_goto (tgt := 43) hx hb dL_run_10 (by decide) ?_
    refine lv_iconst (v := 0) hx hb dL_run_43 (by decide) ?_
    refine vx_ret ?_
    refine W.bound (fun gb1 gb2 => ?_)
    have hmd := run_md pre1 wf pre0 hp
    refine W.widen (k := 18 * (6000 - md.toNatClampNeg) + 1) (n := 101 * (6000 - md.toNatClampNeg) + 8) (by omega) (by omega) ?_
    exact gr_i (wo := fun u : ((Nat → Option Nat) × Int64 × Int32 × Int32 × cZ × cQ) × (Nat → Int64) => lW g ty qo u.2 u.1) (f := fun u : ((Nat → Option Nat) × Int64 × Int32 × Int32 × cZ × cQ) × (Nat → Int64) => 18 * (u.1.2.2.2.1.toNatClampNeg - md.toNatClampNeg) + 1) (g := fun u : ((Nat → Option Nat) × Int64 × Int32 × Int32 × cZ × cQ) × (Nat → Int64) => 101 * (u.1.2.2.2.1.toNatClampNeg - md.toNatClampNeg) + 8) (u, vp_updL o 0 r.toInt64) hx hb hr hlk hS hPw hDw (by rw [← hsz]; exact gb1) (by rw [← htot]; exact gb2) (Or.inl ⟨rfl, r, hp, rfl⟩) dL_run_44

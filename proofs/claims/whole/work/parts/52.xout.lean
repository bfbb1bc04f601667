def zLo (Z : cZ) : cZ := (Z.1, Z.2.1, Z.2.2.1, Z.2.2.2.1, Z.2.2.2.2.1, Z.2.2.2.2.2.1, (Z.2.2.2.2.2.2.1 + 1), Z.2.2.2.2.2.2.2.1, Z.2.2.2.2.2.2.2.2.1, Z.2.2.2.2.2.2.2.2.2.1, Z.2.2.2.2.2.2.2.2.2.2.1, Z.2.2.2.2.2.2.2.2.2.2.2)
def zLoad (Z : cZ) (i w a b c : Int32) : cZ := ((upd (upd (upd (upd Z.1 (i * 4).toNatClampNeg w) (i * 4 + 1).toNatClampNeg a) (i * 4 + 2).toNatClampNeg b) (i * 4 + 3).toNatClampNeg c), Z.2.1, Z.2.2.1, Z.2.2.2.1, Z.2.2.2.2.1, Z.2.2.2.2.2.1, Z.2.2.2.2.2.2.1, Z.2.2.2.2.2.2.2.1, Z.2.2.2.2.2.2.2.2.1, Z.2.2.2.2.2.2.2.2.2.1, Z.2.2.2.2.2.2.2.2.2.2.1, Z.2.2.2.2.2.2.2.2.2.2.2)
theorem nn_of {x : Int32} (h : ¬ x < 0) : 0 ≤ x := by
  rw [Int32.lt_iff_toInt_lt] at h
  rw [Int32.le_iff_toInt_le]
  omega
theorem n256 {x : Int32} (h : x < 256) : ¬ 256 ≤ x := by
  rw [Int32.lt_iff_toInt_lt] at h
  rw [Int32.le_iff_toInt_le]
  omega
theorem cx_end {s : State} {H : Heap} {locs : List Loc} {A : Nat → Prop} {D : va_G} {SX : Type} {wx : SX → va_W} {ex : SX → String} {px : SX → Prop} {E : String} (u : SX) (hp : px u) (hS : va_S A s.heap H locs) (hP : va_P D vwCl (wx u) H) (hD : va_D A (wx u)) (hE : E = ex u) :
    ∀ t : State, s.vm.Alike t.vm → H.size ≤ t.heap.size → (∀ q : Nat, q < H.size → t.heap[q]? = H[q]?) → vx_X px (cBX D ex wx A) A E s t :=
  fun t _ hle hk => ⟨u, hp, ⟨hE, hP.kept (fun k q h => hk q.1 (vx_lt hP h)), hD⟩, ⟨Nat.le_trans hS.1 hle, fun q h1 h2 => (hk q (Nat.lt_of_lt_of_le h1 hS.1)).trans (hS.2.1 q h1 h2)⟩⟩
def q_X11_op (w0 : Int32) (a0 : Int32) (b0 : Int32) (c0 : Int32) (pl : Nat → Option Nat) (ac : Int64) (ft : Int32) (md : Int32) (Z : cZ) (P : cQ) (rz : Int64) (u : (Nat → Option Nat) × Int32 × Int32 × cZ × cQ) : Prop := ∃ (r9 : Int64) (u9 : (Nat → Option Nat) × Int32 × Int32 × cQ), r9 = rz ∧ (u9.1, u9.2.1, u9.2.2.1, (zDn Z), u9.2.2.2) = u ∧ q_X11_answerOf w0 a0 b0 c0 pl ac (-1) md Z P r9 u9 ∧ u9.2.1 = (-1)
def px_X11_op (w0 : Int32) (a0 : Int32) (b0 : Int32) (c0 : Int32) (pl : Nat → Option Nat) (ac : Int64) (ft : Int32) (md : Int32) (Z : cZ) (P : cQ) (u : (Nat → Option Nat) × Int64 × Int32 × Int32 × cZ × cQ) : Prop := ∃ (r9 : Int64) (u9 : (Nat → Option Nat) × Int32 × Int32 × cQ), (u9.1, ac, u9.2.1, u9.2.2.1, (zLo Z), u9.2.2.2) = u ∧ q_X11_answerOf w0 a0 b0 c0 pl ac (-1) md Z P r9 u9 ∧ ¬ u9.2.1 = (-1)
set_option maxHeartbeats 800000 in
set_option maxRecDepth 100000 in
theorem c_X11_throwFault (l : Launch) (dC : Nat → ClassId) (dI : Nat → Nat → Nat) (g : Nat → Nat) (ty : Nat → ClassId) (sz : Nat) (pl : Nat → Option Nat) (ac : Int64) (ft : Int32) (md : Int32) (Z : cZ) (P : cQ) (s0 : Int32) (hlt : l.stackTraces = false) : vx_Met l yX11_throwFault (Cond.code yX11_throwFault cX11_throwFault 1 none :: gT) ({ frames := 7, cells := 1, slots := 8, locals := 140 }) (cPx (dC, dI) (cTy ty) (cW g ty pl ac ft md Z P) sz [.int s0]) (va_Qv (fun (u : Unit) => False) (cB (dC, dI) (fun u : Unit => cW g ty pl ac ft md Z P) (va_A (cW g ty pl ac ft md Z P) sz)) (va_A (cW g ty pl ac ft md Z P) sz)) (vx_X (fun u : (Nat → Option Nat) × Int64 × Int32 × Int32 × cZ × cQ => (pl, ac, ft, md, Z, P) = u) (cBX (dC, dI) (fun _ : (Nat → Option Nat) × Int64 × Int32 × Int32 × cZ × cQ => cEx s0) (fun u : (Nat → Option Nat) × Int64 × Int32 × Int32 × cZ × cQ => cW g ty u.1 u.2.1 u.2.2.1 u.2.2.2.1 u.2.2.2.2.1 u.2.2.2.2.2) (va_A (cW g ty pl ac ft md Z P) sz)) (va_A (cW g ty pl ac ft md Z P) sz)) 1 8 (va_A (cW g ty pl ac ft md Z P) sz) := by
  refine cx_of (Qa := fun A => va_Qv (fun (u : Unit) => False) (cB (dC, dI) (fun u : Unit => cW g ty pl ac ft md Z P) A) A) (Xa := fun A => vx_X (fun u : (Nat → Option Nat) × Int64 × Int32 × Int32 × cZ × cQ => (pl, ac, ft, md, Z, P) = u) (cBX (dC, dI) (fun _ : (Nat → Option Nat) × Int64 × Int32 × Int32 × cZ × cQ => cEx s0) (fun u : (Nat → Option Nat) × Int64 × Int32 × Int32 × cZ × cQ => cW g ty u.1 u.2.1 u.2.2.1 u.2.2.2.1 u.2.2.2.2.1 u.2.2.2.2.2) A) A) (by decide) (Nat.le_of_ble_eq_true rfl) ?_
  intro p e s m below meth c A hx hb hr hml hout hown hg hlk hmn hP hK hD hT hTx hZ hS hA hsz ls hl
  have hown : s.vm.findClass RX11 = some m.cls := hown
  have hl : lv_has ls 1 [(0, .int s0)] := hl
  refine lv_iload_n hx hb dX11_throwFault_0 rfl (lv_at hl 0 rfl) ?_
  by_cases e_1 : s0 = 0
  · show _
    refine lv_tableIn (off := 39) (tgt := 40) hx hb dX11_throwFault_1 (by rw [e_1]; decide) (by rw [e_1]; decide) (by rw [e_1]; decide) (by decide) ?_
    exact vx_throw0 (own := RX11) (cls := "java/lang/ArithmeticException") (names := ["java/lang/RuntimeException", "java/lang/Exception"]) (ik := 88) (ic := 90) hx hb hlt hown (by decide) (by decide) (hg _ wXc_0) (hg _ wXi_0) (vx_hat (fun w hw => hg w (wXg_0 w hw)) wXb_0 (cTx_all hTx)) wXo_0 hZ.1 hZ.2 hS (by rw [hml]; exact hl.1) dX11_throwFault_40 dX11_throwFault_43 dX11_throwFault_44 dX11_throwFault_47 (fun x h9 => absurd (hout x h9) id) (Nat.le_of_ble_eq_true rfl) (Nat.le_of_ble_eq_true rfl) (by show 0 + 1 ≤ 1; omega) (by show 0 + 6 ≤ 8; omega) hlk (cx_end (wx := fun u : (Nat → Option Nat) × Int64 × Int32 × Int32 × cZ × cQ => cW g ty u.1 u.2.1 u.2.2.1 u.2.2.2.1 u.2.2.2.2.1 u.2.2.2.2.2) (ex := fun _ : (Nat → Option Nat) × Int64 × Int32 × Int32 × cZ × cQ => cEx s0) (E := "java/lang/ArithmeticException") (pl, ac, ft, md, Z, P) rfl hS hP hD (by simp [cEx, e_1])) hS.2.2 (by show 0 + 1 ≤ 1; omega) (by show 0 + 6 ≤ 8; omega)
  · show _
    by_cases e_2 : s0 = 1
    · show _
      refine lv_tableIn (off := 47) (tgt := 48) hx hb dX11_throwFault_1 (by rw [e_2]; decide) (by rw [e_2]; decide) (by rw [e_2]; decide) (by decide) ?_
      exact cx_throwN (own := RX11) (ik := 91) (ic := 93) hx hb hlt hown (hg _ wXc_1) (hg _ wXi_1) (hg _ wXm) (vx_hat (fun w hw => hg w (wXg_1 w hw)) wXb_1 (cTx_all hTx)) wXo_1 (by decide) hZ hS (by rw [hml]; exact hl.1) dX11_throwFault_48 dX11_throwFault_51 dX11_throwFault_52 dX11_throwFault_55 (fun x h9 => absurd (hout x h9) id) (Nat.le_of_ble_eq_true rfl) (Nat.le_of_ble_eq_true rfl) (by show 0 + 1 ≤ 1; omega) (by show 0 + 8 ≤ 8; omega) hlk (cx_end (wx := fun u : (Nat → Option Nat) × Int64 × Int32 × Int32 × cZ × cQ => cW g ty u.1 u.2.1 u.2.2.1 u.2.2.2.1 u.2.2.2.2.1 u.2.2.2.2.2) (ex := fun _ : (Nat → Option Nat) × Int64 × Int32 × Int32 × cZ × cQ => cEx s0) (E := "java/lang/NullPointerException") (pl, ac, ft, md, Z, P) rfl hS hP hD (by simp [cEx, e_1, e_2])) hS.2.2 (by show 0 + 1 ≤ 1; omega) (by show 0 + 8 ≤ 8; omega)
    · show _
      by_cases e_3 : s0 = 2
      · show _
        refine lv_tableIn (off := 55) (tgt := 56) hx hb dX11_throwFault_1 (by rw [e_3]; decide) (by rw [e_3]; decide) (by rw [e_3]; decide) (by decide) ?_
        exact vx_throw0 (own := RX11) (cls := "java/lang/ArrayIndexOutOfBoundsException") (names := ["java/lang/IndexOutOfBoundsException", "java/lang/RuntimeException", "java/lang/Exception"]) (ik := 40) (ic := 94) hx hb hlt hown (by decide) (by decide) (hg _ wXc_2) (hg _ wXi_2) (vx_hat (fun w hw => hg w (wXg_2 w hw)) wXb_2 (cTx_all hTx)) wXo_2 hZ.1 hZ.2 hS (by rw [hml]; exact hl.1) dX11_throwFault_56 dX11_throwFault_59 dX11_throwFault_60 dX11_throwFault_63 (fun x h9 => absurd (hout x h9) id) (Nat.le_of_ble_eq_true rfl) (Nat.le_of_ble_eq_true rfl) (by show 0 + 1 ≤ 1; omega) (by show 0 + 6 ≤ 8; omega) hlk (cx_end (wx := fun u : (Nat → Option Nat) × Int64 × Int32 × Int32 × cZ × cQ => cW g ty u.1 u.2.1 u.2.2.1 u.2.2.2.1 u.2.2.2.2.1 u.2.2.2.2.2) (ex := fun _ : (Nat → Option Nat) × Int64 × Int32 × Int32 × cZ × cQ => cEx s0) (E := "java/lang/ArrayIndexOutOfBoundsException") (pl, ac, ft, md, Z, P) rfl hS hP hD (by simp [cEx, e_1, e_2, e_3])) hS.2.2 (by show 0 + 1 ≤ 1; omega) (by show 0 + 6 ≤ 8; omega)
      · show _
        by_cases e_4 : s0 = 3
        · show _
          refine lv_tableIn (off := 63) (tgt := 64) hx hb dX11_throwFault_1 (by rw [e_4]; decide) (by rw [e_4]; decide) (by rw [e_4]; decide) (by decide) ?_
          exact vx_throw0 (own := RX11) (cls := "java/lang/ClassCastException") (names := ["java/lang/RuntimeException", "java/lang/Exception"]) (ik := 95) (ic := 97) hx hb hlt hown (by decide) (by decide) (hg _ wXc_3) (hg _ wXi_3) (vx_hat (fun w hw => hg w (wXg_3 w hw)) wXb_3 (cTx_all hTx)) wXo_3 hZ.1 hZ.2 hS (by rw [hml]; exact hl.1) dX11_throwFault_64 dX11_throwFault_67 dX11_throwFault_68 dX11_throwFault_71 (fun x h9 => absurd (hout x h9) id) (Nat.le_of_ble_eq_true rfl) (Nat.le_of_ble_eq_true rfl) (by show 0 + 1 ≤ 1; omega) (by show 0 + 6 ≤ 8; omega) hlk (cx_end (wx := fun u : (Nat → Option Nat) × Int64 × Int32 × Int32 × cZ × cQ => cW g ty u.1 u.2.1 u.2.2.1 u.2.2.2.1 u.2.2.2.2.1 u.2.2.2.2.2) (ex := fun _ : (Nat → Option Nat) × Int64 × Int32 × Int32 × cZ × cQ => cEx s0) (E := "java/lang/ClassCastException") (pl, ac, ft, md, Z, P) rfl hS hP hD (by simp [cEx, e_1, e_2, e_3, e_4])) hS.2.2 (by show 0 + 1 ≤ 1; omega) (by show 0 + 6 ≤ 8; omega)
        · show _
          by_cases e_5 : s0 = 4
          · show _
            refine lv_tableIn (off := 71) (tgt := 72) hx hb dX11_throwFault_1 (by rw [e_5]; decide) (by rw [e_5]; decide) (by rw [e_5]; decide) (by decide) ?_
            exact vx_throw0 (own := RX11) (cls := "java/lang/NegativeArraySizeException") (names := ["java/lang/RuntimeException", "java/lang/Exception"]) (ik := 98) (ic := 100) hx hb hlt hown (by decide) (by decide) (hg _ wXc_4) (hg _ wXi_4) (vx_hat (fun w hw => hg w (wXg_4 w hw)) wXb_4 (cTx_all hTx)) wXo_4 hZ.1 hZ.2 hS (by rw [hml]; exact hl.1) dX11_throwFault_72 dX11_throwFault_75 dX11_throwFault_76 dX11_throwFault_79 (fun x h9 => absurd (hout x h9) id) (Nat.le_of_ble_eq_true rfl) (Nat.le_of_ble_eq_true rfl) (by show 0 + 1 ≤ 1; omega) (by show 0 + 6 ≤ 8; omega) hlk (cx_end (wx := fun u : (Nat → Option Nat) × Int64 × Int32 × Int32 × cZ × cQ => cW g ty u.1 u.2.1 u.2.2.1 u.2.2.2.1 u.2.2.2.2.1 u.2.2.2.2.2) (ex := fun _ : (Nat → Option Nat) × Int64 × Int32 × Int32 × cZ × cQ => cEx s0) (E := "java/lang/NegativeArraySizeException") (pl, ac, ft, md, Z, P) rfl hS hP hD (by simp [cEx, e_1, e_2, e_3, e_4, e_5])) hS.2.2 (by show 0 + 1 ≤ 1; omega) (by show 0 + 6 ≤ 8; omega)
          · show _
            by_cases e_6 : s0 = 5
            · show _
              refine lv_tableIn (off := 79) (tgt := 80) hx hb dX11_throwFault_1 (by rw [e_6]; decide) (by rw [e_6]; decide) (by rw [e_6]; decide) (by decide) ?_
              exact vx_throw0 (own := RX11) (cls := "java/lang/ArrayStoreException") (names := ["java/lang/RuntimeException", "java/lang/Exception"]) (ik := 101) (ic := 103) hx hb hlt hown (by decide) (by decide) (hg _ wXc_5) (hg _ wXi_5) (vx_hat (fun w hw => hg w (wXg_5 w hw)) wXb_5 (cTx_all hTx)) wXo_5 hZ.1 hZ.2 hS (by rw [hml]; exact hl.1) dX11_throwFault_80 dX11_throwFault_83 dX11_throwFault_84 dX11_throwFault_87 (fun x h9 => absurd (hout x h9) id) (Nat.le_of_ble_eq_true rfl) (Nat.le_of_ble_eq_true rfl) (by show 0 + 1 ≤ 1; omega) (by show 0 + 6 ≤ 8; omega) hlk (cx_end (wx := fun u : (Nat → Option Nat) × Int64 × Int32 × Int32 × cZ × cQ => cW g ty u.1 u.2.1 u.2.2.1 u.2.2.2.1 u.2.2.2.2.1 u.2.2.2.2.2) (ex := fun _ : (Nat → Option Nat) × Int64 × Int32 × Int32 × cZ × cQ => cEx s0) (E := "java/lang/ArrayStoreException") (pl, ac, ft, md, Z, P) rfl hS hP hD (by simp [cEx, e_1, e_2, e_3, e_4, e_5, e_6])) hS.2.2 (by show 0 + 1 ≤ 1; omega) (by show 0 + 6 ≤ 8; omega)
            · show _
              refine lv_tableOut (tgt := 88) hx hb dX11_throwFault_1 (by have q0 := lv_neT e_1 (a := 0) rfl; have q1 := lv_neT e_2 (a := 1) rfl; have q2 := lv_neT e_3 (a := 2) rfl; have q3 := lv_neT e_4 (a := 3) rfl; have q4 := lv_neT e_5 (a := 4) rfl; have q5 := lv_neT e_6 (a := 5) rfl; omega) (by decide) ?_
              exact vx_throw0 (own := RX11) (cls := "java/lang/IllegalStateException") (names := ["java/lang/RuntimeException", "java/lang/Exception"]) (ik := 104) (ic := 106) hx hb hlt hown (by decide) (by decide) (hg _ wXc_6) (hg _ wXi_6) (vx_hat (fun w hw => hg w (wXg_6 w hw)) wXb_6 (cTx_all hTx)) wXo_6 hZ.1 hZ.2 hS (by rw [hml]; exact hl.1) dX11_throwFault_88 dX11_throwFault_91 dX11_throwFault_92 dX11_throwFault_95 (fun x h9 => absurd (hout x h9) id) (Nat.le_of_ble_eq_true rfl) (Nat.le_of_ble_eq_true rfl) (by show 0 + 1 ≤ 1; omega) (by show 0 + 6 ≤ 8; omega) hlk (cx_end (wx := fun u : (Nat → Option Nat) × Int64 × Int32 × Int32 × cZ × cQ => cW g ty u.1 u.2.1 u.2.2.1 u.2.2.2.1 u.2.2.2.2.1 u.2.2.2.2.2) (ex := fun _ : (Nat → Option Nat) × Int64 × Int32 × Int32 × cZ × cQ => cEx s0) (E := "java/lang/IllegalStateException") (pl, ac, ft, md, Z, P) rfl hS hP hD (by simp [cEx, e_1, e_2, e_3, e_4, e_5, e_6])) hS.2.2 (by show 0 + 1 ≤ 1; omega) (by show 0 + 6 ≤ 8; omega)
set_option maxHeartbeats 800000 in
set_option maxRecDepth 100000 in
theorem c_X11_letFaultOut (l : Launch) (dC : Nat → ClassId) (dI : Nat → Nat → Nat) (g : Nat → Nat) (ty : Nat → ClassId) (sz : Nat) (pl : Nat → Option Nat) (ac : Int64) (ft : Int32) (md : Int32) (Z : cZ) (P : cQ) (hlt : l.stackTraces = false) : vx_Met l yX11_letFaultOut (Cond.code yX11_letFaultOut cX11_letFaultOut 1 none :: gT) ({ frames := 8, cells := 1, slots := 8, locals := 160 }) (cPx (dC, dI) (cTy ty) (cW g ty pl ac ft md Z P) sz [.ref (g 0)]) (va_Qv (fun (u : Unit) => ft = (-1)) (cB (dC, dI) (fun u : Unit => cW g ty pl ac ft md Z P) (va_A (cW g ty pl ac ft md Z P) sz)) (va_A (cW g ty pl ac ft md Z P) sz)) (vx_X (fun u : (Nat → Option Nat) × Int64 × Int32 × Int32 × cZ × cQ => (pl, ac, ft, md, (zLo Z), P) = u ∧ ¬ ft = (-1)) (cBX (dC, dI) (fun u : (Nat → Option Nat) × Int64 × Int32 × Int32 × cZ × cQ => cEx u.2.2.1) (fun u : (Nat → Option Nat) × Int64 × Int32 × Int32 × cZ × cQ => cW g ty u.1 u.2.1 u.2.2.1 u.2.2.2.1 u.2.2.2.2.1 u.2.2.2.2.2) (va_A (cW g ty pl ac ft md Z P) sz)) (va_A (cW g ty pl ac ft md Z P) sz)) 1 8 (va_A (cW g ty pl ac ft md Z P) sz) := by
  refine cx_of (Qa := fun A => va_Qv (fun (u : Unit) => ft = (-1)) (cB (dC, dI) (fun u : Unit => cW g ty pl ac ft md Z P) A) A) (Xa := fun A => vx_X (fun u : (Nat → Option Nat) × Int64 × Int32 × Int32 × cZ × cQ => (pl, ac, ft, md, (zLo Z), P) = u ∧ ¬ ft = (-1)) (cBX (dC, dI) (fun u : (Nat → Option Nat) × Int64 × Int32 × Int32 × cZ × cQ => cEx u.2.2.1) (fun u : (Nat → Option Nat) × Int64 × Int32 × Int32 × cZ × cQ => cW g ty u.1 u.2.1 u.2.2.1 u.2.2.2.1 u.2.2.2.2.1 u.2.2.2.2.2) A) A) (by decide) (Nat.le_of_ble_eq_true rfl) ?_
  intro p e s m below meth c A hx hb hr hml hout hown hg hlk hmn hP hK hD hT hTx hZ hS hA hsz ls hl
  have hown : s.vm.findClass RX11 = some m.cls := hown
  have hl : lv_has ls 1 [(0, .ref (g 0))] := hl
  refine lv_aload_n hx hb dX11_letFaultOut_0 rfl (lv_at hl 0 rfl) ?_
  refine va_get (D := (dC, dI)) (ci := 13) (v := .int ft) (C := RX11) (T := TX11) (N := 12) hx hb hg inG11 hown hK hP 0 rfl rfl 4 (by decide) (hg _ wF_X11_26) (fun _ h9 => h9) rfl dX11_letFaultOut_1 ?_
  refine lv_iconst (v := (-1)) hx hb dX11_letFaultOut_4 (by decide) ?_
  refine lv_icmp_eq (tgt := 25) hx hb dX11_letFaultOut_5 (by decide) (fun c_1 => ?_) (fun c_1 => ?_)
  · show _
    refine W.widen (k := 1) (n := 8) (by show 0 ≤ 1; omega) (by show 0 ≤ 8; omega) ?_
    refine vx_ret ?_
    refine cr_v (wo := fun u : Unit => cW g ty pl ac ft md Z P) (()) hx hb hr hlk hS hP hD ?_ dX11_letFaultOut_25
    exact (by first | assumption)
  · show _
    refine lv_aload_n hx hb dX11_letFaultOut_8 rfl (lv_at hl 0 rfl) ?_
    refine lv_dup hx hb dX11_letFaultOut_9 rfl ?_
    refine va_get (D := (dC, dI)) (ci := 13) (v := .int Z.2.2.2.2.2.2.1) (C := RX11) (T := TX11) (N := 12) hx hb hg inG11 hown hK hP 0 rfl rfl 10 (by decide) (hg _ wF_X11_78) (fun _ h9 => h9) rfl dX11_letFaultOut_10 ?_
    refine lv_iconst (v := 1) hx hb dX11_letFaultOut_13 (by decide) ?_
    refine lv_iadd hx hb dX11_letFaultOut_14 ?_
    refine va_put (D := (dC, dI)) (ci := 13) (v := .int (Z.2.2.2.2.2.2.1 + 1)) (ty := .int) (C := RX11) (T := TX11) (N := 12) hx hb hg inG11 tyX11 tyX11_ok nmX11 hown hK hP hD hS 0 rfl rfl 10 (by decide) (hg _ wF_X11_78) (fun _ h9 => h9) rfl (by decide +kernel) rfl rfl (Nat.le_of_ble_eq_true rfl) dX11_letFaultOut_15 (fun H locs hP hD hS => ?_)
    have hP : va_P (dC, dI) vwCl (cW g ty pl ac ft md (Z.1, Z.2.1, Z.2.2.1, Z.2.2.2.1, Z.2.2.2.2.1, Z.2.2.2.2.2.1, (Z.2.2.2.2.2.2.1 + 1), Z.2.2.2.2.2.2.2.1, Z.2.2.2.2.2.2.2.2.1, Z.2.2.2.2.2.2.2.2.2.1, Z.2.2.2.2.2.2.2.2.2.2.1, Z.2.2.2.2.2.2.2.2.2.2.2) P) H := hP
    have hD : va_D A (cW g ty pl ac ft md (Z.1, Z.2.1, Z.2.2.1, Z.2.2.2.1, Z.2.2.2.2.1, Z.2.2.2.2.2.1, (Z.2.2.2.2.2.2.1 + 1), Z.2.2.2.2.2.2.2.1, Z.2.2.2.2.2.2.2.2.1, Z.2.2.2.2.2.2.2.2.2.1, Z.2.2.2.2.2.2.2.2.2.2.1, Z.2.2.2.2.2.2.2.2.2.2.2) P) := hD
    refine lv_aload_n hx hb dX11_letFaultOut_18 rfl (lv_at hl 0 rfl) ?_
    refine va_get (D := (dC, dI)) (ci := 13) (v := .int ft) (C := RX11) (T := TX11) (N := 12) hx hb hg inG11 hown hK hP 0 rfl rfl 4 (by decide) (hg _ wF_X11_26) (fun _ h9 => h9) rfl dX11_letFaultOut_19 ?_
    refine cXS_v (n := 1) (rest := []) hx hb hml hown hg hT hTx hZ (c_X11_throwFault l dC dI g ty H.size pl ac ft md (Z.1, Z.2.1, Z.2.2.1, Z.2.2.2.1, Z.2.2.2.2.1, Z.2.2.2.2.2.1, (Z.2.2.2.2.2.2.1 + 1), Z.2.2.2.2.2.2.2.1, Z.2.2.2.2.2.2.2.2.1, Z.2.2.2.2.2.2.2.2.2.1, Z.2.2.2.2.2.2.2.2.2.2.1, Z.2.2.2.2.2.2.2.2.2.2.2) P ft hlt) (cb_of hg wM_X11_84 wK_X11_throwFault wI_X11 (by decide +kernel) ⟨Nat.le_of_ble_eq_true rfl, Nat.le_of_ble_eq_true rfl⟩) wS_X11_throwFault hK hP hD hS hA rfl hl.1 rfl (Nat.le_of_ble_eq_true rfl) dX11_letFaultOut_22 ⟨by show 0 + 1 ≤ 1; omega, by show 0 + 8 ≤ 8; omega⟩ (fun ce q9 u_4 H locs q_2 hP hD hS h91 h92 h93 => ?_) (fun u_4 H locs q_2 hP hD hS => ?_)
    · show _
      subst q_2
      exact cx_out (wx := fun u : (Nat → Option Nat) × Int64 × Int32 × Int32 × cZ × cQ => cW g ty u.1 u.2.1 u.2.2.1 u.2.2.2.1 u.2.2.2.2.1 u.2.2.2.2.2) (ex := fun u : (Nat → Option Nat) × Int64 × Int32 × Int32 × cZ × cQ => cEx u.2.2.1) (pl, ac, ft, md, (Z.1, Z.2.1, Z.2.2.1, Z.2.2.2.1, Z.2.2.2.2.1, Z.2.2.2.2.2.1, (Z.2.2.2.2.2.2.1 + 1), Z.2.2.2.2.2.2.2.1, Z.2.2.2.2.2.2.2.2.1, Z.2.2.2.2.2.2.2.2.2.1, Z.2.2.2.2.2.2.2.2.2.2.1, Z.2.2.2.2.2.2.2.2.2.2.2), P) hout hlk h91 h92 h93 ⟨rfl, by assumption⟩ hP hD hS (by show 0 + 1 ≤ 1; omega) (by show 0 + 8 ≤ 8; omega)
    · show _
      exact absurd q_2 id
set_option maxHeartbeats 800000 in
set_option maxRecDepth 100000 in
theorem c_X11_op (l : Launch) (dC : Nat → ClassId) (dI : Nat → Nat → Nat) (g : Nat → Nat) (ty : Nat → ClassId) (sz : Nat) (pl : Nat → Option Nat) (ac : Int64) (ft : Int32) (md : Int32) (Z : cZ) (P : cQ) (k0 : Nat) (w0 : Int32) (a0 : Int32) (b0 : Int32) (c0 : Int32) (wf : cWF pl P) (pre0 : kMk w0 a0 b0 c0 md → 1 ≤ k0) (hlt : l.stackTraces = false) : vx_Met l yX11_op (Cond.code yX11_op cX11_op 7 (some .long) :: gT) ({ frames := 9, cells := 18 * k0 + 1, slots := 101 * k0 + 8, locals := 383 }) (cPx (dC, dI) (cTy ty) (cW g ty pl ac ft md Z P) sz [.ref (g 0), .int w0, .int a0, .int b0, .int c0]) (va_Ql (fun (rz : Int64) (u : (Nat → Option Nat) × Int32 × Int32 × cZ × cQ) => q_X11_op w0 a0 b0 c0 pl ac ft md Z P rz u) (cB (dC, dI) (fun u : (Nat → Option Nat) × Int32 × Int32 × cZ × cQ => cW g ty u.1 ac u.2.1 u.2.2.1 u.2.2.2.1 u.2.2.2.2) (va_A (cW g ty pl ac ft md Z P) sz)) (va_A (cW g ty pl ac ft md Z P) sz)) (vx_X (px_X11_op w0 a0 b0 c0 pl ac ft md Z P) (cBX (dC, dI) (fun u : (Nat → Option Nat) × Int64 × Int32 × Int32 × cZ × cQ => cEx u.2.2.1) (fun u : (Nat → Option Nat) × Int64 × Int32 × Int32 × cZ × cQ => cW g ty u.1 u.2.1 u.2.2.1 u.2.2.2.1 u.2.2.2.2.1 u.2.2.2.2.2) (va_A (cW g ty pl ac ft md Z P) sz)) (va_A (cW g ty pl ac ft md Z P) sz)) (18 * k0 + 1) (101 * k0 + 8) (va_A (cW g ty pl ac ft md Z P) sz) := by
  refine cx_of (Qa := fun A => va_Ql (fun (rz : Int64) (u : (Nat → Option Nat) × Int32 × Int32 × cZ × cQ) => q_X11_op w0 a0 b0 c0 pl ac ft md Z P rz u) (cB (dC, dI) (fun u : (Nat → Option Nat) × Int32 × Int32 × cZ × cQ => cW g ty u.1 ac u.2.1 u.2.2.1 u.2.2.2.1 u.2.2.2.2) A) A) (Xa := fun A => vx_X (px_X11_op w0 a0 b0 c0 pl ac ft md Z P) (cBX (dC, dI) (fun u : (Nat → Option Nat) × Int64 × Int32 × Int32 × cZ × cQ => cEx u.2.2.1) (fun u : (Nat → Option Nat) × Int64 × Int32 × Int32 × cZ × cQ => cW g ty u.1 u.2.1 u.2.2.1 u.2.2.2.1 u.2.2.2.2.1 u.2.2.2.2.2) A) A) (by decide) (Nat.le_of_ble_eq_true rfl) ?_
  intro p e s m below meth c A hx hb hr hml hout hown hg hlk hmn hP hK hD hT hTx hZ hS hA hsz ls hl
  have hown : s.vm.findClass RX11 = some m.cls := hown
  have hl : lv_has ls 7 [(0, .ref (g 0)), (1, .int w0), (2, .int a0), (3, .int b0), (4, .int c0)] := hl
  refine lv_aload_n hx hb dX11_op_0 rfl (lv_at hl 0 rfl) ?_
  refine lv_iconst (v := (-1)) hx hb dX11_op_1 (by decide) ?_
  refine va_put (D := (dC, dI)) (ci := 13) (v := .int (-1)) (ty := .int) (C := RX11) (T := TX11) (N := 12) hx hb hg inG11 tyX11 tyX11_ok nmX11 hown hK hP hD hS 0 rfl rfl 4 (by decide) (hg _ wF_X11_26) (fun _ h9 => h9) rfl (by decide +kernel) rfl rfl (Nat.le_of_ble_eq_true rfl) dX11_op_2 (fun H locs hP hD hS => ?_)
  have hP : va_P (dC, dI) vwCl (cW g ty pl ac (-1) md Z P) H := hP
  have hD : va_D A (cW g ty pl ac (-1) md Z P) := hD
  refine lv_aload_n hx hb dX11_op_5 rfl (lv_at hl 0 rfl) ?_
  refine lv_iload_n hx hb dX11_op_6 rfl (lv_at hl 1 rfl) ?_
  refine lv_iload_n hx hb dX11_op_7 rfl (lv_at hl 2 rfl) ?_
  refine lv_iload_n hx hb dX11_op_8 rfl (lv_at hl 3 rfl) ?_
  refine lv_iload hx hb dX11_op_9 (lv_at hl 4 rfl) ?_
  refine cV_l (C := RX11) (n := 4) (rest := []) hx hb hml hown hg hT (c_X11_answerOf l dC dI g ty H.size pl ac (-1) md Z P k0 w0 a0 b0 c0 wf (by exact pre0)) (cv_of hg wM_X11_30 wN_X11_answerOf wL_X11_X11_answerOf wK_X11_answerOf wI_X11 (by decide +kernel) ⟨Nat.le_of_ble_eq_true rfl, Nat.le_of_ble_eq_true rfl⟩) hK hP hD hS hA (va_recv hK hP (ci := 13) (q0 := 0) rfl rfl) rfl hl.1 rfl (Nat.le_of_ble_eq_true rfl) dX11_op_11 ⟨by show 0 + 18 * k0 ≤ 18 * k0 + 1; omega, by show 0 + 101 * k0 ≤ 101 * k0 + 8; omega⟩ (fun r_2 u_3 H locs q_1 hP hD hS => ?_)
  have hP : va_P (dC, dI) vwCl (cW g ty u_3.1 ac u_3.2.1 u_3.2.2.1 Z u_3.2.2.2) H := hP
  have hD : va_D A (cW g ty u_3.1 ac u_3.2.1 u_3.2.2.1 Z u_3.2.2.2) := hD
  have hq := q_1
  refine lv_lstore (lv' := [(5, .long r_2), (0, .ref (g 0)), (1, .int w0), (2, .int a0), (3, .int b0), (4, .int c0)]) hx hb dX11_op_14 hl (by decide) rfl (fun ls hl => ?_)
  refine lv_aload_n hx hb dX11_op_16 rfl (lv_at hl 1 rfl) ?_
  refine cXV_v (C := RX11) (n := 0) (rest := []) hx hb hml hown hg hT hTx hZ (c_X11_letFaultOut l dC dI g ty H.size u_3.1 ac u_3.2.1 u_3.2.2.1 Z u_3.2.2.2 hlt) (cv_of hg wM_X11_34 wN_X11_letFaultOut wL_X11_X11_letFaultOut wK_X11_letFaultOut wI_X11 (by decide +kernel) ⟨Nat.le_of_ble_eq_true rfl, Nat.le_of_ble_eq_true rfl⟩) hK hP hD hS hA (va_recv hK hP (ci := 13) (q0 := 0) rfl rfl) rfl hl.1 rfl (Nat.le_of_ble_eq_true rfl) dX11_op_17 ⟨by show 0 + 18 * k0 + 1 ≤ 18 * k0 + 1; omega, by show 0 + 101 * k0 + 8 ≤ 101 * k0 + 8; omega⟩ (fun ce q9 u_6 H locs q_4 hP hD hS h91 h92 h93 => ?_) (fun u_6 H locs q_4 hP hD hS => ?_)
  · show _
    obtain ⟨rfl, h94⟩ := q_4
    exact cx_out (wx := fun u : (Nat → Option Nat) × Int64 × Int32 × Int32 × cZ × cQ => cW g ty u.1 u.2.1 u.2.2.1 u.2.2.2.1 u.2.2.2.2.1 u.2.2.2.2.2) (ex := fun u : (Nat → Option Nat) × Int64 × Int32 × Int32 × cZ × cQ => cEx u.2.2.1) _ hout hlk h91 h92 h93 ⟨_, _, rfl, hq, h94⟩ hP hD hS (by show 0 + 18 * k0 + 1 ≤ 18 * k0 + 1; omega) (by show 0 + 101 * k0 + 8 ≤ 101 * k0 + 8; omega)
  · show _
    obtain f_7 := q_4
    have hP : va_P (dC, dI) vwCl (cW g ty u_3.1 ac u_3.2.1 u_3.2.2.1 Z u_3.2.2.2) H := hP
    have hD : va_D A (cW g ty u_3.1 ac u_3.2.1 u_3.2.2.1 Z u_3.2.2.2) := hD
    refine lv_aload_n hx hb dX11_op_20 rfl (lv_at hl 1 rfl) ?_
    refine lv_dup hx hb dX11_op_21 rfl ?_
    refine va_get (D := (dC, dI)) (ci := 13) (v := .int Z.2.2.2.1) (C := RX11) (T := TX11) (N := 12) hx hb hg inG11 hown hK hP 0 rfl rfl 7 (by decide) (hg _ wF_X11_37) (fun _ h9 => h9) rfl dX11_op_22 ?_
    refine lv_iconst (v := 1) hx hb dX11_op_25 (by decide) ?_
    refine lv_iadd hx hb dX11_op_26 ?_
    refine va_put (D := (dC, dI)) (ci := 13) (v := .int (Z.2.2.2.1 + 1)) (ty := .int) (C := RX11) (T := TX11) (N := 12) hx hb hg inG11 tyX11 tyX11_ok nmX11 hown hK hP hD hS 0 rfl rfl 7 (by decide) (hg _ wF_X11_37) (fun _ h9 => h9) rfl (by decide +kernel) rfl rfl (Nat.le_of_ble_eq_true rfl) dX11_op_27 (fun H locs hP hD hS => ?_)
    have hP : va_P (dC, dI) vwCl (cW g ty u_3.1 ac u_3.2.1 u_3.2.2.1 (Z.1, Z.2.1, Z.2.2.1, (Z.2.2.2.1 + 1), Z.2.2.2.2.1, Z.2.2.2.2.2.1, Z.2.2.2.2.2.2.1, Z.2.2.2.2.2.2.2.1, Z.2.2.2.2.2.2.2.2.1, Z.2.2.2.2.2.2.2.2.2.1, Z.2.2.2.2.2.2.2.2.2.2.1, Z.2.2.2.2.2.2.2.2.2.2.2) u_3.2.2.2) H := hP
    have hD : va_D A (cW g ty u_3.1 ac u_3.2.1 u_3.2.2.1 (Z.1, Z.2.1, Z.2.2.1, (Z.2.2.2.1 + 1), Z.2.2.2.2.1, Z.2.2.2.2.2.1, Z.2.2.2.2.2.2.1, Z.2.2.2.2.2.2.2.1, Z.2.2.2.2.2.2.2.2.1, Z.2.2.2.2.2.2.2.2.2.1, Z.2.2.2.2.2.2.2.2.2.2.1, Z.2.2.2.2.2.2.2.2.2.2.2) u_3.2.2.2) := hD
    refine lv_lload hx hb dX11_op_30 (lv_at hl 0 rfl) ?_
    refine W.widen (k := 18 * k0 + 1) (n := 101 * k0 + 8) (by show 0 + 18 * k0 + 1 ≤ 18 * k0 + 1; omega) (by show 0 + 101 * k0 + 8 ≤ 101 * k0 + 8; omega) ?_
    refine vx_ret ?_
    refine cr_l (wo := fun u : (Nat → Option Nat) × Int32 × Int32 × cZ × cQ => cW g ty u.1 ac u.2.1 u.2.2.1 u.2.2.2.1 u.2.2.2.2) ((u_3.1, u_3.2.1, u_3.2.2.1, (Z.1, Z.2.1, Z.2.2.1, (Z.2.2.2.1 + 1), Z.2.2.2.2.1, Z.2.2.2.2.2.1, Z.2.2.2.2.2.2.1, Z.2.2.2.2.2.2.2.1, Z.2.2.2.2.2.2.2.2.1, Z.2.2.2.2.2.2.2.2.2.1, Z.2.2.2.2.2.2.2.2.2.2.1, Z.2.2.2.2.2.2.2.2.2.2.2), u_3.2.2.2)) hx hb hr hlk hS hP hD ?_ dX11_op_32
    exact ⟨_, _, rfl, rfl, (by exact hq), (by assumption)⟩
set_option maxHeartbeats 800000 in
set_option maxRecDepth 100000 in
theorem c_X11_load (l : Launch) (dC : Nat → ClassId) (dI : Nat → Nat → Nat) (g : Nat → Nat) (ty : Nat → ClassId) (sz : Nat) (pl : Nat → Option Nat) (ac : Int64) (ft : Int32) (md : Int32) (Z : cZ) (P : cQ) (i0 : Int32) (w0 : Int32) (a0 : Int32) (b0 : Int32) (c0 : Int32) (hlt : l.stackTraces = false) : vx_Met l yX11_load (Cond.code yX11_load cX11_load 7 (some .int) :: gT) ({ frames := 8, cells := 1, slots := 8, locals := 140 }) (cPx (dC, dI) (cTy ty) (cW g ty pl ac ft md Z P) sz [.ref (g 0), .int i0, .int w0, .int a0, .int b0, .int c0]) (va_Qi (fun (rz : Int32) (u : cZ) => i0 = rz ∧ (zLoad Z i0 w0 a0 b0 c0) = u ∧ ¬ i0 < 0 ∧ i0 < 256) (cB (dC, dI) (fun u : cZ => cW g ty pl ac ft md u P) (va_A (cW g ty pl ac ft md Z P) sz)) (va_A (cW g ty pl ac ft md Z P) sz)) (vx_X (fun u : (Nat → Option Nat) × Int64 × Int32 × Int32 × cZ × cQ => (pl, ac, ft, md, Z, P) = u ∧ (i0 < 0 ∨ ¬ i0 < 256)) (cBX (dC, dI) (fun _ : (Nat → Option Nat) × Int64 × Int32 × Int32 × cZ × cQ => "java/lang/ArrayIndexOutOfBoundsException") (fun u : (Nat → Option Nat) × Int64 × Int32 × Int32 × cZ × cQ => cW g ty u.1 u.2.1 u.2.2.1 u.2.2.2.1 u.2.2.2.2.1 u.2.2.2.2.2) (va_A (cW g ty pl ac ft md Z P) sz)) (va_A (cW g ty pl ac ft md Z P) sz)) 1 8 (va_A (cW g ty pl ac ft md Z P) sz) := by
  refine cx_of (Qa := fun A => va_Qi (fun (rz : Int32) (u : cZ) => i0 = rz ∧ (zLoad Z i0 w0 a0 b0 c0) = u ∧ ¬ i0 < 0 ∧ i0 < 256) (cB (dC, dI) (fun u : cZ => cW g ty pl ac ft md u P) A) A) (Xa := fun A => vx_X (fun u : (Nat → Option Nat) × Int64 × Int32 × Int32 × cZ × cQ => (pl, ac, ft, md, Z, P) = u ∧ (i0 < 0 ∨ ¬ i0 < 256)) (cBX (dC, dI) (fun _ : (Nat → Option Nat) × Int64 × Int32 × Int32 × cZ × cQ => "java/lang/ArrayIndexOutOfBoundsException") (fun u : (Nat → Option Nat) × Int64 × Int32 × Int32 × cZ × cQ => cW g ty u.1 u.2.1 u.2.2.1 u.2.2.2.1 u.2.2.2.2.1 u.2.2.2.2.2) A) A) (by decide) (Nat.le_of_ble_eq_true rfl) ?_
  intro p e s m below meth c A hx hb hr hml hout hown hg hlk hmn hP hK hD hT hTx hZ hS hA hsz ls hl
  have hown : s.vm.findClass RX11 = some m.cls := hown
  have hl : lv_has ls 7 [(0, .ref (g 0)), (1, .int i0), (2, .int w0), (3, .int a0), (4, .int b0), (5, .int c0)] := hl
  refine lv_iload_n hx hb dX11_load_0 rfl (lv_at hl 1 rfl) ?_
  refine lv_if_lt (tgt := 11) hx hb dX11_load_1 (by decide) (fun c_1 => ?_) (fun c_1 => ?_)
  · show _
    obtain ⟨sa, hstr⟩ := hTx.2.2
    exact vx_throwS (own := RX11) (cls := "java/lang/ArrayIndexOutOfBoundsException") (names := ["java/lang/IndexOutOfBoundsException", "java/lang/RuntimeException", "java/lang/Exception"]) (ik := 40) (is := 42) (ic := 44) hx hb hlt hown (by decide) (by decide) (hg _ wXc_2) (hg _ wXi_2) hstr (vx_hat (fun w hw => hg w (wXgS w hw)) wXbS (cTx_all hTx)) wXoS hZ.1 hZ.2 hS (by rw [hml]; exact hl.1) dX11_load_11 dX11_load_14 dX11_load_15 dX11_load_17 dX11_load_20 (fun x h9 => absurd (hout x h9) id) (Nat.le_of_ble_eq_true rfl) (Nat.le_of_ble_eq_true rfl) (by show 0 + 1 ≤ 1; omega) (by show 0 + 6 ≤ 8; omega) hlk (cx_end (wx := fun u : (Nat → Option Nat) × Int64 × Int32 × Int32 × cZ × cQ => cW g ty u.1 u.2.1 u.2.2.1 u.2.2.2.1 u.2.2.2.2.1 u.2.2.2.2.2) (ex := fun _ : (Nat → Option Nat) × Int64 × Int32 × Int32 × cZ × cQ => "java/lang/ArrayIndexOutOfBoundsException") (E := "java/lang/ArrayIndexOutOfBoundsException") (pl, ac, ft, md, Z, P) (show _ ∧ _ from ⟨rfl, (by first | exact Or.inl (by assumption) | exact Or.inr (by assumption))⟩) hS hP hD rfl) hS.2.2 (by show 0 + 1 ≤ 1; omega) (by show 0 + 6 ≤ 8; omega)
  · show _
    refine lv_iload_n hx hb dX11_load_4 rfl (lv_at hl 1 rfl) ?_
    refine lv_sipush (v := 256) hx hb dX11_load_5 (by decide) ?_
    refine lv_icmp_lt (tgt := 21) hx hb dX11_load_8 (by decide) (fun c_2 => ?_) (fun c_2 => ?_)
    · show _
      refine lv_iload_n hx hb dX11_load_21 rfl (lv_at hl 1 rfl) ?_
      refine lv_iconst (v := 4) hx hb dX11_load_22 (by decide) ?_
      refine lv_imul hx hb dX11_load_23 ?_
      refine lv_istore (lv' := [(6, .int (i0 * 4)), (0, .ref (g 0)), (1, .int i0), (2, .int w0), (3, .int a0), (4, .int b0), (5, .int c0)]) hx hb dX11_load_24 hl (by decide) rfl (fun ls hl => ?_)
      refine lv_aload_n hx hb dX11_load_26 rfl (lv_at hl 1 rfl) ?_
      refine va_get (D := (dC, dI)) (ci := 13) (v := .ref (g 2)) (C := RX11) (T := TX11) (N := 12) hx hb hg inG11 hown hK hP 0 rfl rfl 1 (by decide) (hg _ wF_X11_15) (fun _ h9 => h9) rfl dX11_load_27 ?_
      refine lv_iload hx hb dX11_load_30 (lv_at hl 0 rfl) ?_
      refine lv_iload_n hx hb dX11_load_32 rfl (lv_at hl 3 rfl) ?_
      refine va_iast hx hb hK hP hD hS 2 0 rfl rfl (pg_in0 (nn_of (by assumption)) (n256 (by assumption))) dX11_load_33 (fun H locs hP hD hS => ?_)
      have hP : va_P (dC, dI) vwCl (cW g ty pl ac ft md ((upd Z.1 (i0 * 4).toNatClampNeg w0), Z.2.1, Z.2.2.1, Z.2.2.2.1, Z.2.2.2.2.1, Z.2.2.2.2.2.1, Z.2.2.2.2.2.2.1, Z.2.2.2.2.2.2.2.1, Z.2.2.2.2.2.2.2.2.1, Z.2.2.2.2.2.2.2.2.2.1, Z.2.2.2.2.2.2.2.2.2.2.1, Z.2.2.2.2.2.2.2.2.2.2.2) P) H := hP
      have hD : va_D A (cW g ty pl ac ft md ((upd Z.1 (i0 * 4).toNatClampNeg w0), Z.2.1, Z.2.2.1, Z.2.2.2.1, Z.2.2.2.2.1, Z.2.2.2.2.2.1, Z.2.2.2.2.2.2.1, Z.2.2.2.2.2.2.2.1, Z.2.2.2.2.2.2.2.2.1, Z.2.2.2.2.2.2.2.2.2.1, Z.2.2.2.2.2.2.2.2.2.2.1, Z.2.2.2.2.2.2.2.2.2.2.2) P) := hD
      refine lv_aload_n hx hb dX11_load_34 rfl (lv_at hl 1 rfl) ?_
      refine va_get (D := (dC, dI)) (ci := 13) (v := .ref (g 2)) (C := RX11) (T := TX11) (N := 12) hx hb hg inG11 hown hK hP 0 rfl rfl 1 (by decide) (hg _ wF_X11_15) (fun _ h9 => h9) rfl dX11_load_35 ?_
      refine lv_iload hx hb dX11_load_38 (lv_at hl 0 rfl) ?_
      refine lv_iconst (v := 1) hx hb dX11_load_40 (by decide) ?_
      refine lv_iadd hx hb dX11_load_41 ?_
      refine lv_iload_n hx hb dX11_load_42 rfl (lv_at hl 4 rfl) ?_
      refine va_iast hx hb hK hP hD hS 2 0 rfl rfl (pg_in1 (nn_of (by assumption)) (n256 (by assumption))) dX11_load_43 (fun H locs hP hD hS => ?_)
      have hP : va_P (dC, dI) vwCl (cW g ty pl ac ft md ((upd (upd Z.1 (i0 * 4).toNatClampNeg w0) ((i0 * 4) + 1).toNatClampNeg a0), Z.2.1, Z.2.2.1, Z.2.2.2.1, Z.2.2.2.2.1, Z.2.2.2.2.2.1, Z.2.2.2.2.2.2.1, Z.2.2.2.2.2.2.2.1, Z.2.2.2.2.2.2.2.2.1, Z.2.2.2.2.2.2.2.2.2.1, Z.2.2.2.2.2.2.2.2.2.2.1, Z.2.2.2.2.2.2.2.2.2.2.2) P) H := hP
      have hD : va_D A (cW g ty pl ac ft md ((upd (upd Z.1 (i0 * 4).toNatClampNeg w0) ((i0 * 4) + 1).toNatClampNeg a0), Z.2.1, Z.2.2.1, Z.2.2.2.1, Z.2.2.2.2.1, Z.2.2.2.2.2.1, Z.2.2.2.2.2.2.1, Z.2.2.2.2.2.2.2.1, Z.2.2.2.2.2.2.2.2.1, Z.2.2.2.2.2.2.2.2.2.1, Z.2.2.2.2.2.2.2.2.2.2.1, Z.2.2.2.2.2.2.2.2.2.2.2) P) := hD
      refine lv_aload_n hx hb dX11_load_44 rfl (lv_at hl 1 rfl) ?_
      refine va_get (D := (dC, dI)) (ci := 13) (v := .ref (g 2)) (C := RX11) (T := TX11) (N := 12) hx hb hg inG11 hown hK hP 0 rfl rfl 1 (by decide) (hg _ wF_X11_15) (fun _ h9 => h9) rfl dX11_load_45 ?_
      refine lv_iload hx hb dX11_load_48 (lv_at hl 0 rfl) ?_
      refine lv_iconst (v := 2) hx hb dX11_load_50 (by decide) ?_
      refine lv_iadd hx hb dX11_load_51 ?_
      refine lv_iload hx hb dX11_load_52 (lv_at hl 5 rfl) ?_
      refine va_iast hx hb hK hP hD hS 2 0 rfl rfl (pg_in2 (nn_of (by assumption)) (n256 (by assumption))) dX11_load_54 (fun H locs hP hD hS => ?_)
      have hP : va_P (dC, dI) vwCl (cW g ty pl ac ft md ((upd (upd (upd Z.1 (i0 * 4).toNatClampNeg w0) ((i0 * 4) + 1).toNatClampNeg a0) ((i0 * 4) + 2).toNatClampNeg b0), Z.2.1, Z.2.2.1, Z.2.2.2.1, Z.2.2.2.2.1, Z.2.2.2.2.2.1, Z.2.2.2.2.2.2.1, Z.2.2.2.2.2.2.2.1, Z.2.2.2.2.2.2.2.2.1, Z.2.2.2.2.2.2.2.2.2.1, Z.2.2.2.2.2.2.2.2.2.2.1, Z.2.2.2.2.2.2.2.2.2.2.2) P) H := hP
      have hD : va_D A (cW g ty pl ac ft md ((upd (upd (upd Z.1 (i0 * 4).toNatClampNeg w0) ((i0 * 4) + 1).toNatClampNeg a0) ((i0 * 4) + 2).toNatClampNeg b0), Z.2.1, Z.2.2.1, Z.2.2.2.1, Z.2.2.2.2.1, Z.2.2.2.2.2.1, Z.2.2.2.2.2.2.1, Z.2.2.2.2.2.2.2.1, Z.2.2.2.2.2.2.2.2.1, Z.2.2.2.2.2.2.2.2.2.1, Z.2.2.2.2.2.2.2.2.2.2.1, Z.2.2.2.2.2.2.2.2.2.2.2) P) := hD
      refine lv_aload_n hx hb dX11_load_55 rfl (lv_at hl 1 rfl) ?_
      refine va_get (D := (dC, dI)) (ci := 13) (v := .ref (g 2)) (C := RX11) (T := TX11) (N := 12) hx hb hg inG11 hown hK hP 0 rfl rfl 1 (by decide) (hg _ wF_X11_15) (fun _ h9 => h9) rfl dX11_load_56 ?_
      refine lv_iload hx hb dX11_load_59 (lv_at hl 0 rfl) ?_
      refine lv_iconst (v := 3) hx hb dX11_load_61 (by decide) ?_
      refine lv_iadd hx hb dX11_load_62 ?_
      refine lv_iload hx hb dX11_load_63 (lv_at hl 6 rfl) ?_
      refine va_iast hx hb hK hP hD hS 2 0 rfl rfl (pg_in3 (nn_of (by assumption)) (n256 (by assumption))) dX11_load_65 (fun H locs hP hD hS => ?_)
      have hP : va_P (dC, dI) vwCl (cW g ty pl ac ft md ((upd (upd (upd (upd Z.1 (i0 * 4).toNatClampNeg w0) ((i0 * 4) + 1).toNatClampNeg a0) ((i0 * 4) + 2).toNatClampNeg b0) ((i0 * 4) + 3).toNatClampNeg c0), Z.2.1, Z.2.2.1, Z.2.2.2.1, Z.2.2.2.2.1, Z.2.2.2.2.2.1, Z.2.2.2.2.2.2.1, Z.2.2.2.2.2.2.2.1, Z.2.2.2.2.2.2.2.2.1, Z.2.2.2.2.2.2.2.2.2.1, Z.2.2.2.2.2.2.2.2.2.2.1, Z.2.2.2.2.2.2.2.2.2.2.2) P) H := hP
      have hD : va_D A (cW g ty pl ac ft md ((upd (upd (upd (upd Z.1 (i0 * 4).toNatClampNeg w0) ((i0 * 4) + 1).toNatClampNeg a0) ((i0 * 4) + 2).toNatClampNeg b0) ((i0 * 4) + 3).toNatClampNeg c0), Z.2.1, Z.2.2.1, Z.2.2.2.1, Z.2.2.2.2.1, Z.2.2.2.2.2.1, Z.2.2.2.2.2.2.1, Z.2.2.2.2.2.2.2.1, Z.2.2.2.2.2.2.2.2.1, Z.2.2.2.2.2.2.2.2.2.1, Z.2.2.2.2.2.2.2.2.2.2.1, Z.2.2.2.2.2.2.2.2.2.2.2) P) := hD
      refine lv_iload_n hx hb dX11_load_66 rfl (lv_at hl 2 rfl) ?_
      refine W.widen (k := 1) (n := 8) (by show 0 ≤ 1; omega) (by show 0 ≤ 8; omega) ?_
      refine vx_ret ?_
      refine cr_i (wo := fun u : cZ => cW g ty pl ac ft md u P) (((upd (upd (upd (upd Z.1 (i0 * 4).toNatClampNeg w0) ((i0 * 4) + 1).toNatClampNeg a0) ((i0 * 4) + 2).toNatClampNeg b0) ((i0 * 4) + 3).toNatClampNeg c0), Z.2.1, Z.2.2.1, Z.2.2.2.1, Z.2.2.2.2.1, Z.2.2.2.2.2.1, Z.2.2.2.2.2.2.1, Z.2.2.2.2.2.2.2.1, Z.2.2.2.2.2.2.2.2.1, Z.2.2.2.2.2.2.2.2.2.1, Z.2.2.2.2.2.2.2.2.2.2.1, Z.2.2.2.2.2.2.2.2.2.2.2)) hx hb hr hlk hS hP hD ?_ dX11_load_67
      exact ⟨rfl, rfl, (by assumption), (by assumption)⟩
    · show _
      obtain ⟨sa, hstr⟩ := hTx.2.2
      exact vx_throwS (own := RX11) (cls := "java/lang/ArrayIndexOutOfBoundsException") (names := ["java/lang/IndexOutOfBoundsException", "java/lang/RuntimeException", "java/lang/Exception"]) (ik := 40) (is := 42) (ic := 44) hx hb hlt hown (by decide) (by decide) (hg _ wXc_2) (hg _ wXi_2) hstr (vx_hat (fun w hw => hg w (wXgS w hw)) wXbS (cTx_all hTx)) wXoS hZ.1 hZ.2 hS (by rw [hml]; exact hl.1) dX11_load_11 dX11_load_14 dX11_load_15 dX11_load_17 dX11_load_20 (fun x h9 => absurd (hout x h9) id) (Nat.le_of_ble_eq_true rfl) (Nat.le_of_ble_eq_true rfl) (by show 0 + 1 ≤ 1; omega) (by show 0 + 6 ≤ 8; omega) hlk (cx_end (wx := fun u : (Nat → Option Nat) × Int64 × Int32 × Int32 × cZ × cQ => cW g ty u.1 u.2.1 u.2.2.1 u.2.2.2.1 u.2.2.2.2.1 u.2.2.2.2.2) (ex := fun _ : (Nat → Option Nat) × Int64 × Int32 × Int32 × cZ × cQ => "java/lang/ArrayIndexOutOfBoundsException") (E := "java/lang/ArrayIndexOutOfBoundsException") (pl, ac, ft, md, Z, P) (show _ ∧ _ from ⟨rfl, (by first | exact Or.inl (by assumption) | exact Or.inr (by assumption))⟩) hS hP hD rfl) hS.2.2 (by show 0 + 1 ≤ 1; omega) (by show 0 + 6 ≤ 8; omega)

/-! ===== the law's loop ===== -/
theorem sc_le {j L : Nat} (hj : j ≤ 4000) (hL : L ≤ 3072) (h : ¬ Int32.ofNat L - 6 < nI j) : j + 6 ≤ L := by
  have e1 : (Int32.ofNat L).toInt = (L : Int) := nI_toInt (n := L) (by omega)
  have e2 : (Int32.ofNat L - 6).toInt = (L : Int) - 6 := by
    rw [Int32.toInt_sub, e1, show (6 : Int32).toInt = 6 by decide, Int.bmod_eq_of_le (by omega) (by omega)]
  rw [Int32.lt_iff_toInt_lt, e2, nI_toInt (by omega)] at h
  omega
set_option maxHeartbeats 4000000 in
set_option maxRecDepth 100000 in
theorem law_loop {p : Program} {l : Launch} {e : Env} {s : State} {m : MethodId} {below : List Frame} {meth : Method} {c : Code} {dC : Nat → ClassId} {dI : Nat → Nat → Nat} {g : Nat → Nat} {ty : Nat → ClassId} {b L qo : Nat} {xs : Nat → Int32} (hlt : l.stackTraces = false) (C0 : lX p c s m b (dC, dI) ty) (hX : va_X b L xs s s.heap) (hbl : b < s.heap.size) (hL : L ≤ 3072) (hr : meth.sig.returnType = ret) (hlk : meth.locks = false) :
    ∀ (N n : Nat) (M : lMt) (B : lRt) (o : Nat → Int64) (H : Heap) (locs : List Loc) (ls : Array Slot), 6 * n ≤ L + 5 → L + 6 ≤ 6 * n + N → lV (dC, dI) g ty qo (lA s) H M M.2.1 B o → lJ M B → va_S (lA s) s.heap H locs → lv_has ls 8 [(0, .ref b), (1, .ref (g 0)), (2, .ref (g 8)), (3, .ref qo), (4, .int (nI (6 * n)))] →
      W p l e room_1 s m #[Value.ref b] below meth c H locs (lCe M.2.2.2.1 B.1 n) (lSl M.2.2.2.1 B.1 n) (lw_Z below #[Value.ref b] s) (F0 m 23 ls []) := by
  obtain ⟨hx, hb, hml, hown, hg, hK, hT, hTx, hN, hZ⟩ := id C0
  have hbA : ¬ lA s b := Nat.not_le.mpr hbl
  intro N
  induction N with
  | zero =>
    intro n M B o H locs ls h1 h2
    omega
  | succ N ih =>
    intro n M B o H locs ls h1 h2 hV hJ hS hl
    refine lv_iload hx hb dL_law_23 (lv_at hl 4 rfl) ?_
    refine lv_aload_n hx hb dL_law_25 rfl (lv_at hl 0 rfl) ?_
    refine va_slen hx hb hX hbl hbA hS dL_law_26 ?_
    refine lv_bipush (v := 6) hx hb dL_law_27 (by decide) ?_
    refine lv_isub hx hb dL_law_29 ?_
    refine lv_icmp_gt (tgt := 384) hx hb dL_law_30 (by decide) (fun c1 => ?_) (fun c1 => ?_)
    · refine lv_iconst (v := 1) hx hb dL_law_384 (by decide) ?_
      refine va_forget (fun q hq => hS.2.2 q hq) ?_
      have b1 := bt_L hJ
      have a5 := hJ.1.1.2.2.2.2
      have b2 := md_6000 a5.1 a5.2
      have b3 := lw_rc
      have b4 := lw_rs
      refine W.widen (k := room_1.cells) (n := room_1.slots) (by unfold lCe; omega) (by unfold lSl; omega) ?_
      exact lw_ret hx hb hr hlk dL_law_385
    · have hj : 6 * n + 6 ≤ L := sc_le (by omega) hL c1
      have K : ∀ (M' : lMt) (B' : lRt) (o' : Nat → Int64) (H' : Heap) (locs' : List Loc) (ls' : Array Slot), lV (dC, dI) g ty qo (lA s) H' M' M'.2.1 B' o' → lJ M' B' → va_S (lA s) s.heap H' locs' → lv_has ls' 8 [(0, .ref b), (1, .ref (g 0)), (2, .ref (g 8)), (3, .ref qo), (4, .int (nI (6 * n)))] → W p l e room_1 s m #[Value.ref b] below meth c H' locs' (lCe M'.2.2.2.1 B'.1 (n + 1)) (lSl M'.2.2.2.1 B'.1 (n + 1)) (lw_Z below #[Value.ref b] s) (F0 m 378 ls' []) := by
        intro M' B' o' H' locs' ls' hV hJ hS hl
        refine lv_iinc (v := nI (6 * (n + 1))) (lv' := [(4, .int (nI (6 * (n + 1)))), (0, .ref b), (1, .ref (g 0)), (2, .ref (g 8)), (3, .ref qo)]) hx hb dL_law_378 hl (k := 4) rfl (nI_add (6 * n) 6) (by decide) rfl (fun ls hl => ?_)
        refine lv_goto (tgt := 23) hx hb dL_law_381 (by decide) ?_
        exact ih (n + 1) M' B' o' _ _ _ (by omega) (by omega) hV hJ hS (lv_sub hl [1, 2, 3, 4, 0] rfl)
      obtain ⟨pl, ac, ft, md, Z, P⟩ := M
      obtain ⟨Y, pa, kp, I, tl, wr, tw⟩ := B
      have hn : n ≤ 3072 := by omega
      refine lv_aload_n hx hb dL_law_33 rfl (lv_at hl 0 rfl) ?_
      refine lv_iload hx hb dL_law_34 (lv_at hl 4 rfl) ?_
      refine va_sld hx hb hX hbl hbA hS (vp_in_nI (by omega) (by omega)) dL_law_36 ?_
      refine lv_bipush (v := 7) hx hb dL_law_37 (by decide) ?_
      refine lv_iand hx hb dL_law_39 ?_
      obtain ⟨z, hz, ez⟩ := and7 (xs (nI (6 * n)).toNatClampNeg)
      rw [ez]
      clear ez
      rcases (show z = 0 ∨ z = 1 ∨ z = 2 ∨ z = 3 ∨ z = 4 ∨ z = 5 ∨ z = 6 ∨ z = 7 by omega) with rfl | rfl | rfl | rfl | rfl | rfl | rfl | rfl
      · refine lv_tableIn (off := 36) (tgt := 76) hx hb dL_law_40 (by decide) (by decide) (by decide) (by decide) ?_
        exact law_op hlt C0 hX hbl hL hn hj hV hJ hS hl K
      · refine lv_tableIn (off := 127) (tgt := 167) hx hb dL_law_40 (by decide) (by decide) (by decide) (by decide) ?_
        exact law_load hlt C0 hX hbl hL hn hj hV hJ hS hl K
      · refine lv_tableIn (off := 231) (tgt := 271) hx hb dL_law_40 (by decide) (by decide) (by decide) (by decide) ?_
        exact law_run hlt C0 hX hbl hL hn hj hV hJ hS hl K
      · refine lv_tableIn (off := 299) (tgt := 339) hx hb dL_law_40 (by decide) (by decide) (by decide) (by decide) ?_
        exact law_acc hlt C0 hX hbl hL hn hj hV hJ hS hl K
      · refine lv_tableIn (off := 313) (tgt := 353) hx hb dL_law_40 (by decide) (by decide) (by decide) (by decide) ?_
        exact law_count hlt C0 hX hbl hL hn hj hV hJ hS hl K
      · refine lv_tableOut (tgt := 378) hx hb dL_law_40 (by decide) (by decide) ?_
        exact W.widen (k := lCe md Y (n + 1)) (n := lSl md Y (n + 1)) (by show lCe md Y n ≤ _; unfold lCe; omega) (by show lSl md Y n ≤ _; unfold lSl; omega) (K (pl, ac, ft, md, Z, P) (Y, pa, kp, I, tl, wr, tw) o _ _ _ hV hJ hS hl)
      · refine lv_tableOut (tgt := 378) hx hb dL_law_40 (by decide) (by decide) ?_
        exact W.widen (k := lCe md Y (n + 1)) (n := lSl md Y (n + 1)) (by show lCe md Y n ≤ _; unfold lCe; omega) (by show lSl md Y n ≤ _; unfold lSl; omega) (K (pl, ac, ft, md, Z, P) (Y, pa, kp, I, tl, wr, tw) o _ _ _ hV hJ hS hl)
      · refine lv_tableOut (tgt := 378) hx hb dL_law_40 (by decide) (by decide) ?_
        exact W.widen (k := lCe md Y (n + 1)) (n := lSl md Y (n + 1)) (by show lCe md Y n ≤ _; unfold lCe; omega) (by show lSl md Y n ≤ _; unfold lSl; omega) (K (pl, ac, ft, md, Z, P) (Y, pa, kp, I, tl, wr, tw) o _ _ _ hV hJ hS hl)

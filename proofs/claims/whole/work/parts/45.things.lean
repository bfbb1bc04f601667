/-- whether the shelf x takes what is told -/
def kTk (P : cQ) (x : Nat) (o : Option Nat) : Bool := match o with
  | none => true
  | some q => kOf (P.2.1 q) (P.2.2.1 q) (P.2.2.2.1 x)
/-- the copying of things, one by one: whether it went to its end, and what is there then -/
def cTh (ok : Option Nat → Bool) (src : Nat → Option Nat) (i j : Nat) : Nat → Nat → (Nat → Option Nat) → Bool × (Nat → Option Nat)
  | 0, _, d => (true, d)
  | n + 1, k, d => if ok (src (i + k)) = true then cTh ok src i j n (k + 1) (va_up d (j + k) (src (i + k))) else (false, d)
theorem cTh_s {ok : Option Nat → Bool} {src : Nat → Option Nat} {i j n k : Nat} {d : Nat → Option Nat} : cTh ok src i j (n + 1) k d = if ok (src (i + k)) = true then cTh ok src i j n (k + 1) (va_up d (j + k) (src (i + k))) else (false, d) := rfl
theorem wf_arr {pl : Nat → Option Nat} {P : cQ} (wf : cWF pl P) {x y : Nat} (hx : x ∈ P.1) (hk : P.2.1 x = 6) (hy : P.2.2.2.2.1 x = some y) : y ∈ P.1 ∧ P.2.1 y = 8 := by
  obtain ⟨r, h1, h2, h3, -⟩ := wf.2.2.2.1 x hx hk
  have e : r = y := Option.some.inj (h1.symm.trans hy)
  subst e; exact ⟨h2, h3⟩
theorem up1_toInt {k n : Int32} (h : ¬ n ≤ k) : (k + 1).toInt = k.toInt + 1 := by
  rw [Int32.le_iff_toInt_le] at h
  have h2 := n.toInt_lt
  have h3 := k.le_toInt
  rw [Int32.toInt_add, ci_1]
  exact Int.bmod_eq_of_le (by omega) (by omega)
theorem up1_clamp {k n : Int32} (h0 : ¬ k < 0) (h : ¬ n ≤ k) : (k + 1).toNatClampNeg = k.toNatClampNeg + 1 := by
  show (k + 1).toInt.toNat = k.toInt.toNat + 1
  rw [up1_toInt h]
  rw [Int32.lt_iff_toInt_lt, ci_0] at h0
  omega
theorem k1_nn {k n : Int32} (h0 : ¬ k < 0) (h : ¬ n ≤ k) : ¬ k + 1 < 0 := by
  rw [Int32.lt_iff_toInt_lt, ci_0, up1_toInt h]
  rw [Int32.lt_iff_toInt_lt, ci_0] at h0
  omega
theorem k1_lt {k n : Int32} (h0 : ¬ k < 0) (h : ¬ n ≤ k) : k.toNatClampNeg < n.toNatClampNeg := by
  show k.toInt.toNat < n.toInt.toNat
  rw [Int32.lt_iff_toInt_lt, ci_0] at h0
  rw [Int32.le_iff_toInt_le] at h
  omega
theorem th_dec {k n : Int32} (h0 : ¬ k < 0) (h : ¬ n ≤ k) : n.toNatClampNeg - (k + 1).toNatClampNeg < n.toNatClampNeg - k.toNatClampNeg := by
  have a := k1_lt h0 h
  rw [up1_clamp h0 h]; omega
theorem sp_add {i k n : Int32} {L : Nat} (h0 : ¬ k < 0) (h : ¬ n ≤ k) (hs : cSp i n L) (hL : L < 100) : (i + k).toInt = i.toInt + k.toInt ∧ (i + k).toNatClampNeg = i.toNatClampNeg + k.toNatClampNeg ∧ vp_in (i + k) L := by
  obtain ⟨s0, s1, s2⟩ := hs
  have a := clampI h0
  have b := clampI s0
  have c := clampI s1
  have d := k1_lt h0 h
  have e : (i + k).toInt = i.toInt + k.toInt := by
    rw [Int32.toInt_add]
    exact Int.bmod_eq_of_le (by omega) (by omega)
  refine ⟨e, ?_, ?_⟩
  · show (i + k).toInt.toNat = i.toNatClampNeg + k.toNatClampNeg
    rw [e]; omega
  · rw [vp_in_iff, e]; omega
theorem th_end {ok : Option Nat → Bool} {src : Nat → Option Nat} {i j : Nat} {d : Nat → Option Nat} {k n : Int32} (h : n ≤ k) : cTh ok src i j (n.toNatClampNeg - k.toNatClampNeg) k.toNatClampNeg d = (true, d) := by
  have e : n.toNatClampNeg - k.toNatClampNeg = 0 := by
    show n.toInt.toNat - k.toInt.toNat = 0
    rw [Int32.le_iff_toInt_le] at h
    omega
  rw [e]; rfl
theorem th_sub {k n : Int32} (h0 : ¬ k < 0) (h : ¬ n ≤ k) : ∃ r : Nat, n.toNatClampNeg - k.toNatClampNeg = r + 1 ∧ n.toNatClampNeg - (k + 1).toNatClampNeg = r := by
  have a := k1_lt h0 h
  refine ⟨n.toNatClampNeg - k.toNatClampNeg - 1, by omega, ?_⟩
  rw [up1_clamp h0 h]; omega
theorem th_noK {P : cQ} {x2 y1 y2 t i j r k ik : Nat} {d : Nat → Option Nat} (hy : y1 ≠ y2) (hik : ik = i + k) (ho : (pRc P y2 d).2.2.2.2.2.2.2 y1 ik = some t) (hk : kOf (P.2.1 t) (P.2.2.1 t) (P.2.2.2.1 x2) = false) : cTh (kTk P x2) (P.2.2.2.2.2.2.2 y1) i j (r + 1) k d = (false, d) := by
  have ho : va_up P.2.2.2.2.2.2.2 y2 d y1 ik = some t := ho
  rw [va_up_ne _ _ hy, hik] at ho
  rw [cTh_s, ho]
  rw [if_neg]
  show ¬ kOf (P.2.1 t) (P.2.2.1 t) (P.2.2.2.1 x2) = true
  rw [hk]; decide
theorem th_goK {P : cQ} {x2 y1 y2 i j r k ik jk : Nat} {o : Option Nat} {d : Nat → Option Nat} {X : Bool × (Nat → Option Nat)} (hy : y1 ≠ y2) (hik : ik = i + k) (hjk : jk = j + k) (ho : (pRc P y2 d).2.2.2.2.2.2.2 y1 ik = o) (hk : kTk P x2 o = true) (e : cTh (kTk P x2) (P.2.2.2.2.2.2.2 y1) i j (r + 1) k d = X) : cTh (kTk P x2) (P.2.2.2.2.2.2.2 y1) i j r (k + 1) (va_up d jk o) = X := by
  have ho : va_up P.2.2.2.2.2.2.2 y2 d y1 ik = o := ho
  rw [va_up_ne _ _ hy, hik] at ho
  rw [cTh_s, ho, if_pos hk, ← hjk] at e
  exact e
section CTh
variable {P : cQ} {x2 y1 y2 t : Nat} {i j k n : Int32} {L L2 : Nat} {d : Nat → Option Nat} {X : Bool × (Nat → Option Nat)}
theorem th_no (hy : y1 ≠ y2) (h0 : ¬ k < 0) (h : ¬ n ≤ k) (hs1 : cSp i n L) (hL : L < 100) (ho : (pRc P y2 d).2.2.2.2.2.2.2 y1 (i + k).toNatClampNeg = some t) (hk : kOf (P.2.1 t) (P.2.2.1 t) (P.2.2.2.1 x2) = false) : cTh (kTk P x2) (P.2.2.2.2.2.2.2 y1) i.toNatClampNeg j.toNatClampNeg (n.toNatClampNeg - k.toNatClampNeg) k.toNatClampNeg d = (false, d) := by
  obtain ⟨r, e1, -⟩ := th_sub h0 h
  rw [e1]; exact th_noK hy (sp_add h0 h hs1 hL).2.1 ho hk
theorem th_goN (hy : y1 ≠ y2) (h0 : ¬ k < 0) (h : ¬ n ≤ k) (hs1 : cSp i n L) (hs2 : cSp j n L2) (hL : L < 100) (hL2 : L2 < 100) (ho : (pRc P y2 d).2.2.2.2.2.2.2 y1 (i + k).toNatClampNeg = none) (e : cTh (kTk P x2) (P.2.2.2.2.2.2.2 y1) i.toNatClampNeg j.toNatClampNeg (n.toNatClampNeg - k.toNatClampNeg) k.toNatClampNeg d = X) :
    cTh (kTk P x2) (P.2.2.2.2.2.2.2 y1) i.toNatClampNeg j.toNatClampNeg (n.toNatClampNeg - (k + 1).toNatClampNeg) (k + 1).toNatClampNeg (va_up d (j + k).toNatClampNeg none) = X := by
  obtain ⟨r, e1, e2⟩ := th_sub h0 h
  rw [e1] at e; rw [e2, up1_clamp h0 h]
  exact th_goK hy (sp_add h0 h hs1 hL).2.1 (sp_add h0 h hs2 hL2).2.1 ho rfl e
theorem th_goS (hy : y1 ≠ y2) (h0 : ¬ k < 0) (h : ¬ n ≤ k) (hs1 : cSp i n L) (hs2 : cSp j n L2) (hL : L < 100) (hL2 : L2 < 100) (ho : (pRc P y2 d).2.2.2.2.2.2.2 y1 (i + k).toNatClampNeg = some t) (hk : kOf (P.2.1 t) (P.2.2.1 t) (P.2.2.2.1 x2) = true) (e : cTh (kTk P x2) (P.2.2.2.2.2.2.2 y1) i.toNatClampNeg j.toNatClampNeg (n.toNatClampNeg - k.toNatClampNeg) k.toNatClampNeg d = X) :
    cTh (kTk P x2) (P.2.2.2.2.2.2.2 y1) i.toNatClampNeg j.toNatClampNeg (n.toNatClampNeg - (k + 1).toNatClampNeg) (k + 1).toNatClampNeg (va_up d (j + k).toNatClampNeg (some t)) = X := by
  obtain ⟨r, e1, e2⟩ := th_sub h0 h
  rw [e1] at e; rw [e2, up1_clamp h0 h]
  exact th_goK hy (sp_add h0 h hs1 hL).2.1 (sp_add h0 h hs2 hL2).2.1 ho hk e
theorem th_inN {a : Nat} (h : ∀ j t, d j = some t → t ∈ P.1 ∧ P.2.1 t < 7 ∧ kOf (P.2.1 t) (P.2.2.1 t) (P.2.2.2.1 x2) = true) : ∀ j t, va_up d a none j = some t → t ∈ P.1 ∧ P.2.1 t < 7 ∧ kOf (P.2.1 t) (P.2.2.1 t) (P.2.2.2.1 x2) = true := by
  intro j t ht
  by_cases hj : j = a
  · subst hj; rw [va_up_self] at ht; cases ht
  · rw [va_up_ne _ _ hj] at ht; exact h j t ht
theorem th_inS {a b : Nat} (h : ∀ j t, d j = some t → t ∈ P.1 ∧ P.2.1 t < 7 ∧ kOf (P.2.1 t) (P.2.2.1 t) (P.2.2.2.1 x2) = true) (hb : b ∈ P.1 ∧ P.2.1 b < 7) (hk : kOf (P.2.1 b) (P.2.2.1 b) (P.2.2.2.1 x2) = true) : ∀ j t, va_up d a (some b) j = some t → t ∈ P.1 ∧ P.2.1 t < 7 ∧ kOf (P.2.1 t) (P.2.2.1 t) (P.2.2.2.1 x2) = true := by
  intro j t ht
  by_cases hj : j = a
  · subst hj; rw [va_up_self] at ht; cases ht; exact ⟨hb.1, hb.2, hk⟩
  · rw [va_up_ne _ _ hj] at ht; exact h j t ht
end CTh
theorem sp_in {i k n : Int32} {L : Nat} (h0 : ¬ k < 0) (h : ¬ n ≤ k) (hs : cSp i n L) (hL : L < 100) : vp_in (i + k) L := (sp_add h0 h hs hL).2.2
theorem th_bkat {k n : Int32} (h0 : ¬ k < 0) (h : ¬ n ≤ k) (hn : n.toNatClampNeg < 100) : ¬ (n - 1 - k) < 0 ∧ ¬ n ≤ (n - 1 - k) ∧ (n - 1 - k).toNatClampNeg = n.toNatClampNeg - 1 - k.toNatClampNeg := by
  have a := clampI h0
  have d := k1_lt h0 h
  have hn0 : ¬ n < 0 := by
    rw [Int32.lt_iff_toInt_lt, ci_0]
    rw [Int32.lt_iff_toInt_lt, ci_0] at h0
    rw [Int32.le_iff_toInt_le] at h
    omega
  have c := clampI hn0
  have e1 : (n - 1).toInt = n.toInt - 1 := by
    rw [Int32.toInt_sub, ci_1]
    exact Int.bmod_eq_of_le (by omega) (by omega)
  have e : (n - 1 - k).toInt = n.toInt - 1 - k.toInt := by
    rw [Int32.toInt_sub, e1]
    exact Int.bmod_eq_of_le (by omega) (by omega)
  refine ⟨?_, ?_, ?_⟩
  · rw [Int32.lt_iff_toInt_lt, ci_0, e]; omega
  · rw [Int32.le_iff_toInt_le, e]; omega
  · show (n - 1 - k).toInt.toNat = _
    rw [e]; omega
theorem sp_n99 {i n : Int32} {L : Nat} (hs : cSp i n L) (hL : L < 100) : n.toNatClampNeg < 100 := by
  obtain ⟨-, -, s2⟩ := hs; omega
theorem sp_inB {i k n : Int32} {L : Nat} (h0 : ¬ k < 0) (h : ¬ n ≤ k) (hs : cSp i n L) (hL : L < 100) : vp_in (i + (n - 1 - k)) L := by
  obtain ⟨b0, b1, -⟩ := th_bkat h0 h (sp_n99 hs hL)
  exact sp_in b0 b1 hs hL
theorem th_cpy0 {f g : Nat → Option Nat} {i j : Nat} : g = va_cpy f g i j 0 := by
  funext a; unfold va_cpy; rw [if_neg (by omega)]
theorem th_bad {P : cQ} {x2 y1 y2 t a : Nat} {d : Nat → Option Nat} (J2 : ∀ j t, d j = some t → t ∈ P.1 ∧ P.2.1 t < 7 ∧ kOf (P.2.1 t) (P.2.2.1 t) (P.2.2.2.1 x2) = true) (hy : y1 = y2) (ho : (pRc P y2 d).2.2.2.2.2.2.2 y1 a = some t) (hk : kOf (P.2.1 t) (P.2.2.1 t) (P.2.2.2.1 x2) = false) : False := by
  subst hy
  have ho : va_up P.2.2.2.2.2.2.2 y1 d y1 a = some t := ho
  rw [va_up_self] at ho
  exact absurd ((J2 a t ho).2.2.symm.trans hk) (by decide)
theorem fw_step {f : Nat → Option Nat} {i j k : Nat} (h : j ≤ i) : va_up (va_cpy f f i j k) (j + k) (va_cpy f f i j k (i + k)) = va_cpy f f i j (k + 1) := by
  funext a
  by_cases e : a = j + k
  · subst e; rw [va_up_self]; unfold va_cpy
    rw [if_neg (by omega), if_pos (by omega)]
    congr 1; omega
  · rw [va_up_ne _ _ e]; unfold va_cpy
    by_cases q : j ≤ a ∧ a < j + k
    · rw [if_pos q, if_pos (by omega)]
    · rw [if_neg q, if_neg (by omega)]
theorem bw_step {f : Nat → Option Nat} {i j m k : Nat} (h : i < j) : va_up (va_cpy f f (i + (m + 1)) (j + (m + 1)) k) (j + m) (va_cpy f f (i + (m + 1)) (j + (m + 1)) k (i + m)) = va_cpy f f (i + m) (j + m) (k + 1) := by
  funext a
  by_cases e : a = j + m
  · subst e; rw [va_up_self]; unfold va_cpy
    rw [if_neg (by omega), if_pos (by omega)]
    congr 1; omega
  · rw [va_up_ne _ _ e]; unfold va_cpy
    by_cases q : j + (m + 1) ≤ a ∧ a < j + (m + 1) + k
    · rw [if_pos q, if_pos (by omega)]
      congr 1; omega
    · rw [if_neg q, if_neg (by omega)]
theorem th_lecl {i j : Int32} (hi : ¬ i < 0) (hj : ¬ j < 0) : (j ≤ i ↔ j.toNatClampNeg ≤ i.toNatClampNeg) := by
  have a := clampI hi
  have b := clampI hj
  rw [Int32.le_iff_toInt_le]; omega
section CBw
variable {P : cQ} {y1 y2 : Nat} {i j k n : Int32} {L L2 : Nat} {d : Nat → Option Nat} {o : Option Nat}
theorem fw_go (hy : y1 = y2) (h0 : ¬ k < 0) (h : ¬ n ≤ k) (hs1 : cSp i n L) (hs2 : cSp j n L2) (hij : j ≤ i) (hL : L < 100) (hL2 : L2 < 100) (ho : (pRc P y2 d).2.2.2.2.2.2.2 y1 (i + k).toNatClampNeg = o) (e : d = va_cpy (P.2.2.2.2.2.2.2 y1) (P.2.2.2.2.2.2.2 y2) i.toNatClampNeg j.toNatClampNeg k.toNatClampNeg) :
    va_up d (j + k).toNatClampNeg o = va_cpy (P.2.2.2.2.2.2.2 y1) (P.2.2.2.2.2.2.2 y2) i.toNatClampNeg j.toNatClampNeg (k + 1).toNatClampNeg := by
  subst hy
  have ho : va_up P.2.2.2.2.2.2.2 y1 d y1 (i + k).toNatClampNeg = o := ho
  rw [va_up_self, (sp_add h0 h hs1 hL).2.1] at ho
  rw [up1_clamp h0 h, (sp_add h0 h hs2 hL2).2.1, ← ho, e]
  exact fw_step ((th_lecl hs1.1 hs2.1).1 hij)
theorem bw_go (hy : y1 = y2) (h0 : ¬ k < 0) (h : ¬ n ≤ k) (hs1 : cSp i n L) (hs2 : cSp j n L2) (hij : ¬ j ≤ i) (hL : L < 100) (hL2 : L2 < 100) (ho : (pRc P y2 d).2.2.2.2.2.2.2 y1 (i + (n - 1 - k)).toNatClampNeg = o) (e : d = va_cpy (P.2.2.2.2.2.2.2 y1) (P.2.2.2.2.2.2.2 y2) (i.toNatClampNeg + (n.toNatClampNeg - k.toNatClampNeg)) (j.toNatClampNeg + (n.toNatClampNeg - k.toNatClampNeg)) k.toNatClampNeg) :
    va_up d (j + (n - 1 - k)).toNatClampNeg o = va_cpy (P.2.2.2.2.2.2.2 y1) (P.2.2.2.2.2.2.2 y2) (i.toNatClampNeg + (n.toNatClampNeg - (k + 1).toNatClampNeg)) (j.toNatClampNeg + (n.toNatClampNeg - (k + 1).toNatClampNeg)) (k + 1).toNatClampNeg := by
  subst hy
  obtain ⟨b0, b1, b2⟩ := th_bkat h0 h (sp_n99 hs1 hL)
  have ho : va_up P.2.2.2.2.2.2.2 y1 d y1 (i + (n - 1 - k)).toNatClampNeg = o := ho
  rw [va_up_self, (sp_add b0 b1 hs1 hL).2.1, b2] at ho
  have q := k1_lt h0 h
  obtain ⟨m, hm⟩ : ∃ m, n.toNatClampNeg - k.toNatClampNeg = m + 1 := ⟨n.toNatClampNeg - k.toNatClampNeg - 1, by omega⟩
  have h1 : n.toNatClampNeg - 1 - k.toNatClampNeg = m := by omega
  have h2 : n.toNatClampNeg - (k.toNatClampNeg + 1) = m := by omega
  rw [up1_clamp h0 h, (sp_add b0 b1 hs2 hL2).2.1, b2, h1, h2, ← ho, h1, e, hm]
  exact bw_step (by have := mt (th_lecl hs1.1 hs2.1).2 hij; omega)
theorem th_nnle (h : ¬ n < 0) : 0 ≤ n := by
  rw [Int32.lt_iff_toInt_lt, ci_0] at h
  rw [Int32.le_iff_toInt_le, ci_0]; omega
theorem th_k1le (h0 : ¬ k < 0) (h : ¬ n ≤ k) : k + 1 ≤ n := by
  rw [Int32.le_iff_toInt_le, up1_toInt h]
  rw [Int32.le_iff_toInt_le] at h; omega
theorem fw_end {src dst : Nat → Option Nat} {a b : Nat} (e : d = va_cpy src dst a b k.toNatClampNeg) (hle : k ≤ n) (h : n ≤ k) : d = va_cpy src dst a b n.toNatClampNeg := by
  rw [e, show k = n from Int32.le_antisymm hle h]
theorem bw_end {src dst : Nat → Option Nat} {a b : Nat} (e : d = va_cpy src dst (a + (n.toNatClampNeg - k.toNatClampNeg)) (b + (n.toNatClampNeg - k.toNatClampNeg)) k.toNatClampNeg) (hle : k ≤ n) (h : n ≤ k) : d = va_cpy src dst a b n.toNatClampNeg := by
  rw [e, show k = n from Int32.le_antisymm hle h, Nat.sub_self, Nat.add_zero, Nat.add_zero]
end CBw
set_option maxHeartbeats 1600000 in
set_option maxRecDepth 100000 in
theorem c_X11_copyThings (l : Launch) (dC : Nat → ClassId) (dI : Nat → Nat → Nat) (g : Nat → Nat) (ty : Nat → ClassId) (sz : Nat) (pl : Nat → Option Nat) (ac : Int64) (ft : Int32) (md : Int32) (Z : cZ) (P : cQ) (x1 : Nat) (i0 : Int32) (x2 : Nat) (j0 : Int32) (n0 : Int32) (wf : cWF pl P) (pre0 : x1 ∈ P.1) (pre1 : P.2.1 x1 = 6) (pre2 : x2 ∈ P.1) (pre3 : P.2.1 x2 = 6) : Met l yX11_copyThings (Cond.code yX11_copyThings cX11_copyThings 10 none :: gT) ({ frames := 2, cells := 0, slots := 0, locals := 298 }) (cP (dC, dI) (cTy ty) (cW g ty pl ac ft md Z P) sz [.ref (g 0), .ref x1, .int i0, .ref x2, .int j0, .int n0]) (va_Qv (fun (u : Int32 × cQ) => (∃ y1 : Nat, (2, P) = u ∧ P.2.2.2.2.1 x1 = some y1 ∧ ¬ cSp i0 n0 (P.2.2.2.2.2.1 y1)) ∨ (∃ y1 y2 : Nat, (2, P) = u ∧ P.2.2.2.2.1 x1 = some y1 ∧ P.2.2.2.2.1 x2 = some y2 ∧ cSp i0 n0 (P.2.2.2.2.2.1 y1) ∧ ¬ cSp j0 n0 (P.2.2.2.2.2.1 y2)) ∨ (∃ y1 y2 : Nat, (ft, pRc P y2 (va_cpy (P.2.2.2.2.2.2.2 y1) (P.2.2.2.2.2.2.2 y2) i0.toNatClampNeg j0.toNatClampNeg n0.toNatClampNeg)) = u ∧ x1 = x2 ∧ P.2.2.2.2.1 x1 = some y1 ∧ P.2.2.2.2.1 x2 = some y2 ∧ cSp i0 n0 (P.2.2.2.2.2.1 y1) ∧ cSp j0 n0 (P.2.2.2.2.2.1 y2)) ∨ (∃ (y1 y2 : Nat) (d : Nat → Option Nat), (ft, pRc P y2 d) = u ∧ ¬ x1 = x2 ∧ P.2.2.2.2.1 x1 = some y1 ∧ P.2.2.2.2.1 x2 = some y2 ∧ cSp i0 n0 (P.2.2.2.2.2.1 y1) ∧ cSp j0 n0 (P.2.2.2.2.2.1 y2) ∧ cTh (kTk P x2) (P.2.2.2.2.2.2.2 y1) i0.toNatClampNeg j0.toNatClampNeg n0.toNatClampNeg 0 (P.2.2.2.2.2.2.2 y2) = (true, d)) ∨ (∃ (y1 y2 : Nat) (d : Nat → Option Nat), (5, pRc P y2 d) = u ∧ ¬ x1 = x2 ∧ P.2.2.2.2.1 x1 = some y1 ∧ P.2.2.2.2.1 x2 = some y2 ∧ cSp i0 n0 (P.2.2.2.2.2.1 y1) ∧ cSp j0 n0 (P.2.2.2.2.2.1 y2) ∧ cTh (kTk P x2) (P.2.2.2.2.2.2.2 y1) i0.toNatClampNeg j0.toNatClampNeg n0.toNatClampNeg 0 (P.2.2.2.2.2.2.2 y2) = (false, d))) (cB (dC, dI) (fun u : Int32 × cQ => cW g ty pl ac u.1 md Z u.2) (va_A (cW g ty pl ac ft md Z P) sz)) (va_A (cW g ty pl ac ft md Z P) sz)) 0 0 (va_A (cW g ty pl ac ft md Z P) sz) := by
  refine cc_of (Qa := fun A => va_Qv (fun (u : Int32 × cQ) => (∃ y1 : Nat, (2, P) = u ∧ P.2.2.2.2.1 x1 = some y1 ∧ ¬ cSp i0 n0 (P.2.2.2.2.2.1 y1)) ∨ (∃ y1 y2 : Nat, (2, P) = u ∧ P.2.2.2.2.1 x1 = some y1 ∧ P.2.2.2.2.1 x2 = some y2 ∧ cSp i0 n0 (P.2.2.2.2.2.1 y1) ∧ ¬ cSp j0 n0 (P.2.2.2.2.2.1 y2)) ∨ (∃ y1 y2 : Nat, (ft, pRc P y2 (va_cpy (P.2.2.2.2.2.2.2 y1) (P.2.2.2.2.2.2.2 y2) i0.toNatClampNeg j0.toNatClampNeg n0.toNatClampNeg)) = u ∧ x1 = x2 ∧ P.2.2.2.2.1 x1 = some y1 ∧ P.2.2.2.2.1 x2 = some y2 ∧ cSp i0 n0 (P.2.2.2.2.2.1 y1) ∧ cSp j0 n0 (P.2.2.2.2.2.1 y2)) ∨ (∃ (y1 y2 : Nat) (d : Nat → Option Nat), (ft, pRc P y2 d) = u ∧ ¬ x1 = x2 ∧ P.2.2.2.2.1 x1 = some y1 ∧ P.2.2.2.2.1 x2 = some y2 ∧ cSp i0 n0 (P.2.2.2.2.2.1 y1) ∧ cSp j0 n0 (P.2.2.2.2.2.1 y2) ∧ cTh (kTk P x2) (P.2.2.2.2.2.2.2 y1) i0.toNatClampNeg j0.toNatClampNeg n0.toNatClampNeg 0 (P.2.2.2.2.2.2.2 y2) = (true, d)) ∨ (∃ (y1 y2 : Nat) (d : Nat → Option Nat), (5, pRc P y2 d) = u ∧ ¬ x1 = x2 ∧ P.2.2.2.2.1 x1 = some y1 ∧ P.2.2.2.2.1 x2 = some y2 ∧ cSp i0 n0 (P.2.2.2.2.2.1 y1) ∧ cSp j0 n0 (P.2.2.2.2.2.1 y2) ∧ cTh (kTk P x2) (P.2.2.2.2.2.2.2 y1) i0.toNatClampNeg j0.toNatClampNeg n0.toNatClampNeg 0 (P.2.2.2.2.2.2.2 y2) = (false, d))) (cB (dC, dI) (fun u : Int32 × cQ => cW g ty pl ac u.1 md Z u.2) A) A) (by decide) (Nat.le_of_ble_eq_true rfl) ?_
  intro p e s m below meth c A hx hb hr hml hown hg hlk hmn hP hK hD hT hS hA hsz ls hl
  have hown : s.vm.findClass RX11 = some m.cls := hown
  have hl : lv_has ls 10 [(0, .ref (g 0)), (1, .ref x1), (2, .int i0), (3, .ref x2), (4, .int j0), (5, .int n0)] := hl
  refine lv_aload_n hx hb dX11_copyThings_0 rfl (lv_at hl 0 rfl) ?_
  refine lv_iload_n hx hb dX11_copyThings_1 rfl (lv_at hl 2 rfl) ?_
  refine lv_iload hx hb dX11_copyThings_2 (lv_at hl 5 rfl) ?_
  refine lv_aload_n hx hb dX11_copyThings_4 rfl (lv_at hl 1 rfl) ?_
  obtain ⟨j_1, r_2, i_3, hj_1, hr_4, ri_5, rk_6, rl_7, hi_3⟩ := cg_shelf (X := cX g ty pl ac ft md Z) (ty := ty) wf pre0 pre1
  refine va_getN (D := (dC, dI)) (ci := 11) (v := .ref r_2) (C := RX8) (T := TX8) (N := 3) hx hb hg inG8 hown hK hP j_1 hj_1 rfl 2 (by decide) (va_Nw.use (A := _) rfl (hT.1 3 (by decide))) (fun _ h9 => h9) rfl dX11_copyThings_5 ?_
  obtain ⟨i_8, hi_8⟩ := cg_8 (X := cX g ty pl ac ft md Z) (ty := ty) ri_5 rk_6
  refine va_alen hx hb hK hP i_8 1 hi_8 rfl (v := (Int32.ofNat (P.2.2.2.2.2.1 r_2))) rfl dX11_copyThings_8 ?_
  refine cV_i (C := RX11) (n := 3) (rest := []) hx hb hml hown hg hT (c_X11_isSpan l dC dI g ty s.heap.size pl ac ft md Z P i0 n0 (Int32.ofNat (P.2.2.2.2.2.1 r_2)) ) (cv_of hg wM_X11_359 wN_X11_isSpan wL_X11_X11_isSpan wK_X11_isSpan wI_X11 (by decide +kernel) ⟨Nat.le_of_ble_eq_true rfl, Nat.le_of_ble_eq_true rfl⟩) hK hP hD hS hA (va_recv hK hP (ci := 13) (q0 := 0) rfl rfl) rfl hl.1 rfl (Nat.le_of_ble_eq_true rfl) dX11_copyThings_9 ⟨Nat.le_of_ble_eq_true rfl, Nat.le_of_ble_eq_true rfl⟩ (fun r_10 u_11 H locs q_9 hP hD hS => ?_)
  rcases q_9 with ⟨rfl, rfl, f_12, f_13, f_14⟩ | ⟨rfl, rfl, f_15⟩
  · show _
    have hP : va_P (dC, dI) vwCl (cW g ty pl ac ft md Z P) H := hP
    have hD : va_D A (cW g ty pl ac ft md Z P) := hD
    refine lv_if_eq (tgt := 31) hx hb dX11_copyThings_12 (by decide) (fun c9 => absurd c9 (by decide)) (fun _ => ?_)
    refine lv_aload_n hx hb dX11_copyThings_15 rfl (lv_at hl 0 rfl) ?_
    refine lv_iload hx hb dX11_copyThings_16 (lv_at hl 4 rfl) ?_
    refine lv_iload hx hb dX11_copyThings_18 (lv_at hl 5 rfl) ?_
    refine lv_aload_n hx hb dX11_copyThings_20 rfl (lv_at hl 3 rfl) ?_
    obtain ⟨j_16, r_17, i_18, hj_16, hr_19, ri_20, rk_21, rl_22, hi_18⟩ := cg_shelf (X := cX g ty pl ac ft md Z) (ty := ty) wf pre2 pre3
    refine va_getN (D := (dC, dI)) (ci := 11) (v := .ref r_17) (C := RX8) (T := TX8) (N := 3) hx hb hg inG8 hown hK hP j_16 hj_16 rfl 2 (by decide) (va_Nw.use (A := _) rfl (hT.1 3 (by decide))) (fun _ h9 => h9) rfl dX11_copyThings_21 ?_
    obtain ⟨i_23, hi_23⟩ := cg_8 (X := cX g ty pl ac ft md Z) (ty := ty) ri_20 rk_21
    refine va_alen hx hb hK hP i_23 1 hi_23 rfl (v := (Int32.ofNat (P.2.2.2.2.2.1 r_17))) rfl dX11_copyThings_24 ?_
    refine cV_i (C := RX11) (n := 3) (rest := []) hx hb hml hown hg hT (c_X11_isSpan l dC dI g ty H.size pl ac ft md Z P j0 n0 (Int32.ofNat (P.2.2.2.2.2.1 r_17)) ) (cv_of hg wM_X11_359 wN_X11_isSpan wL_X11_X11_isSpan wK_X11_isSpan wI_X11 (by decide +kernel) ⟨Nat.le_of_ble_eq_true rfl, Nat.le_of_ble_eq_true rfl⟩) hK hP hD hS hA (va_recv hK hP (ci := 13) (q0 := 0) rfl rfl) rfl hl.1 rfl (Nat.le_of_ble_eq_true rfl) dX11_copyThings_25 ⟨Nat.le_of_ble_eq_true rfl, Nat.le_of_ble_eq_true rfl⟩ (fun r_25 u_26 H locs q_24 hP hD hS => ?_)
    rcases q_24 with ⟨rfl, rfl, f_27, f_28, f_29⟩ | ⟨rfl, rfl, f_30⟩
    · show _
      have hP : va_P (dC, dI) vwCl (cW g ty pl ac ft md Z P) H := hP
      have hD : va_D A (cW g ty pl ac ft md Z P) := hD
      refine lv_if_ne (tgt := 32) hx hb dX11_copyThings_28 (by decide) (fun _ => ?_) (fun c9 => absurd c9 (by decide)) 
      refine lv_aload_n hx hb dX11_copyThings_32 rfl (lv_at hl 1 rfl) ?_
      refine lv_aload_n hx hb dX11_copyThings_33 rfl (lv_at hl 3 rfl) ?_
      refine lv_acmp_ne (rx := (some x1)) (ry := (some x2)) (tgt := 47) hx hb dX11_copyThings_34 (by decide) (fun c_31 => ?_) (fun c_31 => ?_)
      · show _
        refine lv_iconst (v := 0) hx hb dX11_copyThings_47 (by decide) ?_
        refine lv_istore (lv' := [(6, .int 0), (0, .ref (g 0)), (1, .ref x1), (2, .int i0), (3, .ref x2), (4, .int j0), (5, .int n0)]) hx hb dX11_copyThings_48 hl (by decide) rfl (fun ls hl => ?_)
        refine lv_iconst (v := 0) hx hb dX11_copyThings_50 (by decide) ?_
        refine lv_istore (lv' := [(7, .int 0), (6, .int 0), (0, .ref (g 0)), (1, .ref x1), (2, .int i0), (3, .ref x2), (4, .int j0), (5, .int n0)]) hx hb dX11_copyThings_51 hl (by decide) rfl (fun ls hl => ?_)
        have hs1 : cSp i0 n0 (P.2.2.2.2.2.1 r_2) := span_in (by assumption) (by assumption) (by assumption) (by assumption)
        have hs2 : cSp j0 n0 (P.2.2.2.2.2.1 r_17) := span_in (by assumption) (by assumption) (by assumption) (by assumption)
        have hx12 : ¬ x1 = x2 := fun h9 => absurd (congrArg some h9) (by assumption)
        have hy12 : r_2 ≠ r_17 := fun h9 => hx12 (wf.2.2.2.2.2.2.2.2.2 x1 x2 r_2 pre0 pre2 (Or.inr pre1) (Or.inr pre3) hr_4 (h9 ▸ hr_19))
        have hP : va_P (dC, dI) vwCl (cW g ty pl ac ft md Z (pRc P r_17 (P.2.2.2.2.2.2.2 r_17))) H := by rw [pRc_self]; exact hP
        have hD : va_D A (cW g ty pl ac ft md Z (pRc P r_17 (P.2.2.2.2.2.2.2 r_17))) := by rw [pRc_self]; exact hD
        have LOOP : ∀ (N : Nat) (k1 : Int32) (d1 : Nat → Option Nat) (H : Heap) (locs : List Loc) (ls : Array Slot), n0.toNatClampNeg - k1.toNatClampNeg = N → (¬ k1 < 0) → (cTh (kTk P x2) (P.2.2.2.2.2.2.2 r_2) i0.toNatClampNeg j0.toNatClampNeg (n0.toNatClampNeg - k1.toNatClampNeg) k1.toNatClampNeg d1 = cTh (kTk P x2) (P.2.2.2.2.2.2.2 r_2) i0.toNatClampNeg j0.toNatClampNeg n0.toNatClampNeg 0 (P.2.2.2.2.2.2.2 r_17)) → (∀ j t, d1 j = some t → t ∈ P.1 ∧ P.2.1 t < 7 ∧ kOf (P.2.1 t) (P.2.2.1 t) (P.2.2.2.1 x2) = true) → va_P (dC, dI) vwCl (cW g ty pl ac ft md Z (pRc P r_17 d1)) H → va_D A (cW g ty pl ac ft md Z (pRc P r_17 d1)) → va_S A s.heap H locs → lv_has ls 10 [(7, .int k1), (0, .ref (g 0)), (1, .ref x1), (2, .int i0), (3, .ref x2), (4, .int j0), (5, .int n0), (6, .int 0)] → W p l e ({ frames := 2, cells := 0, slots := 0, locals := 298 }) s m ([.ref (g 0), .ref x1, .int i0, .ref x2, .int j0, .int n0]).toArray below meth c H locs 0 0 (MQ below (va_Qv (fun (u : Int32 × cQ) => (∃ y1 : Nat, (2, P) = u ∧ P.2.2.2.2.1 x1 = some y1 ∧ ¬ cSp i0 n0 (P.2.2.2.2.2.1 y1)) ∨ (∃ y1 y2 : Nat, (2, P) = u ∧ P.2.2.2.2.1 x1 = some y1 ∧ P.2.2.2.2.1 x2 = some y2 ∧ cSp i0 n0 (P.2.2.2.2.2.1 y1) ∧ ¬ cSp j0 n0 (P.2.2.2.2.2.1 y2)) ∨ (∃ y1 y2 : Nat, (ft, pRc P y2 (va_cpy (P.2.2.2.2.2.2.2 y1) (P.2.2.2.2.2.2.2 y2) i0.toNatClampNeg j0.toNatClampNeg n0.toNatClampNeg)) = u ∧ x1 = x2 ∧ P.2.2.2.2.1 x1 = some y1 ∧ P.2.2.2.2.1 x2 = some y2 ∧ cSp i0 n0 (P.2.2.2.2.2.1 y1) ∧ cSp j0 n0 (P.2.2.2.2.2.1 y2)) ∨ (∃ (y1 y2 : Nat) (d : Nat → Option Nat), (ft, pRc P y2 d) = u ∧ ¬ x1 = x2 ∧ P.2.2.2.2.1 x1 = some y1 ∧ P.2.2.2.2.1 x2 = some y2 ∧ cSp i0 n0 (P.2.2.2.2.2.1 y1) ∧ cSp j0 n0 (P.2.2.2.2.2.1 y2) ∧ cTh (kTk P x2) (P.2.2.2.2.2.2.2 y1) i0.toNatClampNeg j0.toNatClampNeg n0.toNatClampNeg 0 (P.2.2.2.2.2.2.2 y2) = (true, d)) ∨ (∃ (y1 y2 : Nat) (d : Nat → Option Nat), (5, pRc P y2 d) = u ∧ ¬ x1 = x2 ∧ P.2.2.2.2.1 x1 = some y1 ∧ P.2.2.2.2.1 x2 = some y2 ∧ cSp i0 n0 (P.2.2.2.2.2.1 y1) ∧ cSp j0 n0 (P.2.2.2.2.2.1 y2) ∧ cTh (kTk P x2) (P.2.2.2.2.2.2.2 y1) i0.toNatClampNeg j0.toNatClampNeg n0.toNatClampNeg 0 (P.2.2.2.2.2.2.2 y2) = (false, d))) (cB (dC, dI) (fun u : Int32 × cQ => cW g ty pl ac u.1 md Z u.2) A) A) ([.ref (g 0), .ref x1, .int i0, .ref x2, .int j0, .int n0]).toArray s 0 0 A) (F0 m 53 ls []) := by
          intro N
          induction N using Nat.strongRecOn with
          | _ N IH =>
            intro k1 d1 H locs ls hN J0 J1 J2 hP hD hS hl
            have wf0 := wf
            have wf : cWF pl (pRc P r_17 d1) := wf_rcS wf0 pre2 pre3 hr_19 J2
            refine lv_iload hx hb dX11_copyThings_53 (lv_at hl 0 rfl) ?_
            refine lv_iload hx hb dX11_copyThings_55 (lv_at hl 6 rfl) ?_
            refine lv_icmp_ge (tgt := 124) hx hb dX11_copyThings_57 (by decide) (fun c_32 => ?_) (fun c_32 => ?_)
            · show _
              refine cr_v (wo := fun u : Int32 × cQ => cW g ty pl ac u.1 md Z u.2) ((ft, (pRc P r_17 d1))) hx hb hr hlk hS hP hD ?_ dX11_copyThings_124
              first | exact Or.inr (Or.inr (Or.inl ⟨r_2, r_17, (by first | rfl | (rw [bw_end J1 J3 (by assumption)]; done) | (rw [fw_end J1 J3 (by assumption)]; done)), (by first | assumption | exact span_in (by assumption) (by assumption) (by assumption) (by assumption) | exact span_no (by assumption) (by assumption) | exact Option.some.inj (by assumption) | exact fun h9 => absurd (congrArg some h9) (by assumption) | exact sp_in J0 (by assumption) hs1 (by assumption) | exact sp_in J0 (by assumption) hs2 (by assumption) | exact sp_inB J0 (by assumption) hs1 (by assumption) | exact sp_inB J0 (by assumption) hs2 (by assumption)), (by first | assumption | exact span_in (by assumption) (by assumption) (by assumption) (by assumption) | exact span_no (by assumption) (by assumption) | exact Option.some.inj (by assumption) | exact fun h9 => absurd (congrArg some h9) (by assumption) | exact sp_in J0 (by assumption) hs1 (by assumption) | exact sp_in J0 (by assumption) hs2 (by assumption) | exact sp_inB J0 (by assumption) hs1 (by assumption) | exact sp_inB J0 (by assumption) hs2 (by assumption)), (by first | assumption | exact span_in (by assumption) (by assumption) (by assumption) (by assumption) | exact span_no (by assumption) (by assumption) | exact Option.some.inj (by assumption) | exact fun h9 => absurd (congrArg some h9) (by assumption) | exact sp_in J0 (by assumption) hs1 (by assumption) | exact sp_in J0 (by assumption) hs2 (by assumption) | exact sp_inB J0 (by assumption) hs1 (by assumption) | exact sp_inB J0 (by assumption) hs2 (by assumption)), (by first | assumption | exact span_in (by assumption) (by assumption) (by assumption) (by assumption) | exact span_no (by assumption) (by assumption) | exact Option.some.inj (by assumption) | exact fun h9 => absurd (congrArg some h9) (by assumption) | exact sp_in J0 (by assumption) hs1 (by assumption) | exact sp_in J0 (by assumption) hs2 (by assumption) | exact sp_inB J0 (by assumption) hs1 (by assumption) | exact sp_inB J0 (by assumption) hs2 (by assumption)), (by first | assumption | exact span_in (by assumption) (by assumption) (by assumption) (by assumption) | exact span_no (by assumption) (by assumption) | exact Option.some.inj (by assumption) | exact fun h9 => absurd (congrArg some h9) (by assumption) | exact sp_in J0 (by assumption) hs1 (by assumption) | exact sp_in J0 (by assumption) hs2 (by assumption) | exact sp_inB J0 (by assumption) hs1 (by assumption) | exact sp_inB J0 (by assumption) hs2 (by assumption))⟩)) | exact Or.inr (Or.inr (Or.inr (Or.inl ⟨_, _, _, rfl, (by first | assumption | (have h9 : n0 ≤ k1 := (by assumption); exact J1.symm.trans (th_end h9)) | (have h9 : ¬ n0 ≤ k1 := (by assumption); exact J1.symm.trans (th_no hy12 J0 h9 hs1 (by assumption) (by assumption) (by assumption))) | exact (th_bad J2 hyE (by assumption) (by assumption)).elim), (by first | assumption | (have h9 : n0 ≤ k1 := (by assumption); exact J1.symm.trans (th_end h9)) | (have h9 : ¬ n0 ≤ k1 := (by assumption); exact J1.symm.trans (th_no hy12 J0 h9 hs1 (by assumption) (by assumption) (by assumption))) | exact (th_bad J2 hyE (by assumption) (by assumption)).elim), (by first | assumption | (have h9 : n0 ≤ k1 := (by assumption); exact J1.symm.trans (th_end h9)) | (have h9 : ¬ n0 ≤ k1 := (by assumption); exact J1.symm.trans (th_no hy12 J0 h9 hs1 (by assumption) (by assumption) (by assumption))) | exact (th_bad J2 hyE (by assumption) (by assumption)).elim), (by first | assumption | (have h9 : n0 ≤ k1 := (by assumption); exact J1.symm.trans (th_end h9)) | (have h9 : ¬ n0 ≤ k1 := (by assumption); exact J1.symm.trans (th_no hy12 J0 h9 hs1 (by assumption) (by assumption) (by assumption))) | exact (th_bad J2 hyE (by assumption) (by assumption)).elim), (by first | assumption | (have h9 : n0 ≤ k1 := (by assumption); exact J1.symm.trans (th_end h9)) | (have h9 : ¬ n0 ≤ k1 := (by assumption); exact J1.symm.trans (th_no hy12 J0 h9 hs1 (by assumption) (by assumption) (by assumption))) | exact (th_bad J2 hyE (by assumption) (by assumption)).elim), (by first | assumption | (have h9 : n0 ≤ k1 := (by assumption); exact J1.symm.trans (th_end h9)) | (have h9 : ¬ n0 ≤ k1 := (by assumption); exact J1.symm.trans (th_no hy12 J0 h9 hs1 (by assumption) (by assumption) (by assumption))) | exact (th_bad J2 hyE (by assumption) (by assumption)).elim)⟩)))
            · show _
              refine lv_iload hx hb dX11_copyThings_60 (lv_at hl 7 rfl) ?_
              refine lv_if_eq (tgt := 75) hx hb dX11_copyThings_62 (by decide) (fun _ => ?_) (fun c9 => absurd (by decide) c9) 
              refine lv_iload hx hb dX11_copyThings_75 (lv_at hl 0 rfl) ?_
              refine lv_istore (lv' := [(8, .int k1), (7, .int k1), (0, .ref (g 0)), (1, .ref x1), (2, .int i0), (3, .ref x2), (4, .int j0), (5, .int n0), (6, .int 0)]) hx hb dX11_copyThings_77 hl (by decide) rfl (fun ls hl => ?_)
              refine lv_aload_n hx hb dX11_copyThings_79 rfl (lv_at hl 3 rfl) ?_
              obtain ⟨j_33, r_34, i_35, hj_33, hr_36, ri_37, rk_38, rl_39, hi_35⟩ := cg_shelf (X := cX g ty pl ac ft md Z) (ty := ty) wf pre0 pre1
              obtain rfl := Option.some.inj (hr_4.symm.trans hr_36)
              refine va_getN (D := (dC, dI)) (ci := 11) (v := .ref r_2) (C := RX8) (T := TX8) (N := 3) hx hb hg inG8 hown hK hP j_33 hj_33 rfl 2 (by decide) (va_Nw.use (A := _) rfl (hT.1 3 (by decide))) (fun _ h9 => h9) rfl dX11_copyThings_80 ?_
              refine lv_iload_n hx hb dX11_copyThings_83 rfl (lv_at hl 4 rfl) ?_
              refine lv_iload hx hb dX11_copyThings_84 (lv_at hl 0 rfl) ?_
              refine lv_iadd hx hb dX11_copyThings_86 ?_
              obtain ⟨i_40, hi_40⟩ := cg_8 (X := cX g ty pl ac ft md Z) (ty := ty) ri_37 rk_38
              refine va_aldq hx hb hK hP i_40 1 hi_40 rfl (by first | assumption | exact span_in (by assumption) (by assumption) (by assumption) (by assumption) | exact span_no (by assumption) (by assumption) | exact Option.some.inj (by assumption) | exact fun h9 => absurd (congrArg some h9) (by assumption) | exact sp_in J0 (by assumption) hs1 (by assumption) | exact sp_in J0 (by assumption) hs2 (by assumption) | exact sp_inB J0 (by assumption) hs1 (by assumption) | exact sp_inB J0 (by assumption) hs2 (by assumption)) dX11_copyThings_87 ?_
              obtain ⟨o_41, ho_41⟩ : ∃ z, z = (pRc P r_17 d1).2.2.2.2.2.2.2 r_2 (i0 + k1).toNatClampNeg := ⟨_, rfl⟩
              rw [← ho_41]
              cases o_41 with
              | none =>
                have ho_41 := ho_41.symm
                refine lv_astoreN (lv' := [(9, .null), (8, .int k1), (7, .int k1), (0, .ref (g 0)), (1, .ref x1), (2, .int i0), (3, .ref x2), (4, .int j0), (5, .int n0), (6, .int 0)]) hx hb dX11_copyThings_88 hl (by decide) rfl (fun ls hl => ?_)
                refine lv_aload_n hx hb dX11_copyThings_90 rfl (lv_at hl 6 rfl) ?_
                refine lv_aloadN hx hb dX11_copyThings_91 (lv_at hl 0 rfl) ?_
                obtain ⟨j_43, r_44, i_45, hj_43, hr_46, ri_47, rk_48, rl_49, hi_45⟩ := cg_shelf (X := cX g ty pl ac ft md Z) (ty := ty) wf pre2 pre3
                obtain rfl := Option.some.inj (hr_19.symm.trans hr_46)
                refine cV_i (C := RX8) (n := 1) (rest := []) hx hb hml hown hg hT (c_X8_takes l dC dI g ty H.size pl ac ft md Z (pRc P r_17 d1) x2 none wf pre2 pre3 (fun _ h9 => by cases h9)) (cv_of hg wM_X11_301 wN_X8_takes wL_X8_X8_takes wK_X8_takes wI_X8 (by decide +kernel) ⟨Nat.le_of_ble_eq_true rfl, Nat.le_of_ble_eq_true rfl⟩) hK hP hD hS hA (va_recv hK hP (ci := 11) (q0 := j_43) rfl hj_43) rfl hl.1 rfl (Nat.le_of_ble_eq_true rfl) dX11_copyThings_93 ⟨Nat.le_of_ble_eq_true rfl, Nat.le_of_ble_eq_true rfl⟩ (fun r_51 u_52 H locs q_50 hP hD hS => ?_)
                rcases q_50 with ⟨rfl, f_53⟩ | ⟨q_54, rfl, f_55, f_56⟩ | ⟨q_57, rfl, f_58, f_59⟩
                · show _
                  have hP : va_P (dC, dI) vwCl (cW g ty pl ac ft md Z (pRc P r_17 d1)) H := hP
                  have hD : va_D A (cW g ty pl ac ft md Z (pRc P r_17 d1)) := hD
                  refine lv_if_ne (tgt := 106) hx hb dX11_copyThings_96 (by decide) (fun _ => ?_) (fun c9 => absurd c9 (by decide)) 
                  refine lv_aload_n hx hb dX11_copyThings_106 rfl (lv_at hl 6 rfl) ?_
                  obtain ⟨j_60, r_61, i_62, hj_60, hr_63, ri_64, rk_65, rl_66, hi_62⟩ := cg_shelf (X := cX g ty pl ac ft md Z) (ty := ty) wf pre2 pre3
                  obtain rfl := Option.some.inj (hr_19.symm.trans hr_63)
                  refine va_getN (D := (dC, dI)) (ci := 11) (v := .ref r_17) (C := RX8) (T := TX8) (N := 3) hx hb hg inG8 hown hK hP j_60 hj_60 rfl 2 (by decide) (va_Nw.use (A := _) rfl (hT.1 3 (by decide))) (fun _ h9 => h9) rfl dX11_copyThings_107 ?_
                  refine lv_iload hx hb dX11_copyThings_110 (lv_at hl 7 rfl) ?_
                  refine lv_iload hx hb dX11_copyThings_112 (lv_at hl 1 rfl) ?_
                  refine lv_iadd hx hb dX11_copyThings_114 ?_
                  refine lv_aloadN hx hb dX11_copyThings_115 (lv_at hl 0 rfl) ?_
                  obtain ⟨i_67, hi_67⟩ := cg_8 (X := cX g ty pl ac ft md Z) (ty := ty) ri_64 rk_65
                  refine va_astqN hx hb hK hP hD hS i_67 1 hi_67 rfl (by first | assumption | exact span_in (by assumption) (by assumption) (by assumption) (by assumption) | exact span_no (by assumption) (by assumption) | exact Option.some.inj (by assumption) | exact fun h9 => absurd (congrArg some h9) (by assumption) | exact sp_in J0 (by assumption) hs1 (by assumption) | exact sp_in J0 (by assumption) hs2 (by assumption) | exact sp_inB J0 (by assumption) hs1 (by assumption) | exact sp_inB J0 (by assumption) hs2 (by assumption)) dX11_copyThings_117 (fun H locs hP hD2 hS => ?_)
                  rw [cs_8 hD ri_64 rk_65 hi_67 _] at hP hD2
                  have hD := hD2
                  have hP : va_P (dC, dI) vwCl (cW g ty pl ac ft md Z (pRc (pRc P r_17 d1) r_17 (va_up ((pRc P r_17 d1).2.2.2.2.2.2.2 r_17) (j0 + k1).toNatClampNeg none))) H := hP
                  have hD : va_D A (cW g ty pl ac ft md Z (pRc (pRc P r_17 d1) r_17 (va_up ((pRc P r_17 d1).2.2.2.2.2.2.2 r_17) (j0 + k1).toNatClampNeg none))) := hD
                  refine lv_iinc (v := (k1 + 1)) (lv' := [(7, .int (k1 + 1)), (9, .null), (8, .int k1), (0, .ref (g 0)), (1, .ref x1), (2, .int i0), (3, .ref x2), (4, .int j0), (5, .int n0), (6, .int 0)]) hx hb dX11_copyThings_118 hl (k := 2) rfl rfl (by decide) rfl (fun ls hl => ?_)
                  refine lv_goto (tgt := 53) hx hb dX11_copyThings_121 (by decide) ?_
                  rw [pRc_step] at hP hD
                  exact IH _ (by exact hN ▸ th_dec J0 (by assumption)) (k1 + 1) _ _ _ _ rfl (by exact k1_nn J0 (by assumption)) (by first | exact th_goN hy12 J0 (by assumption) hs1 hs2 (by assumption) (by assumption) (by assumption) J1 | exact th_goS hy12 J0 (by assumption) hs1 hs2 (by assumption) (by assumption) (by assumption) (by assumption) J1) (by first | exact th_inN J2 | exact th_inS J2 (wf.2.2.2.2.1 _ _ _ (wf_arr wf pre0 pre1 hr_4).1 (wf_arr wf pre0 pre1 hr_4).2 (by assumption)) (by assumption)) hP hD hS (lv_sub hl [0, 3, 4, 5, 6, 7, 8, 9] rfl)
                · show _
                  cases f_55
                · show _
                  cases f_58
              | some t_42 =>
                have ho_41 := ho_41.symm
                have th_68 := wf.2.2.2.2.1 _ _ _ ri_37 rk_38 ho_41
                refine lv_astore (lv' := [(9, .ref t_42), (8, .int k1), (7, .int k1), (0, .ref (g 0)), (1, .ref x1), (2, .int i0), (3, .ref x2), (4, .int j0), (5, .int n0), (6, .int 0)]) hx hb dX11_copyThings_88 hl (by decide) rfl (fun ls hl => ?_)
                refine lv_aload_n hx hb dX11_copyThings_90 rfl (lv_at hl 6 rfl) ?_
                refine lv_aload hx hb dX11_copyThings_91 (lv_at hl 0 rfl) ?_
                obtain ⟨j_69, r_70, i_71, hj_69, hr_72, ri_73, rk_74, rl_75, hi_71⟩ := cg_shelf (X := cX g ty pl ac ft md Z) (ty := ty) wf pre2 pre3
                obtain rfl := Option.some.inj (hr_19.symm.trans hr_72)
                refine cV_i (C := RX8) (n := 1) (rest := []) hx hb hml hown hg hT (c_X8_takes l dC dI g ty H.size pl ac ft md Z (pRc P r_17 d1) x2 (some t_42) wf pre2 pre3 (fun _ h9 => by cases h9; exact ⟨th_68.1, th_68.2⟩)) (cv_of hg wM_X11_301 wN_X8_takes wL_X8_X8_takes wK_X8_takes wI_X8 (by decide +kernel) ⟨Nat.le_of_ble_eq_true rfl, Nat.le_of_ble_eq_true rfl⟩) hK hP hD hS hA (va_recv hK hP (ci := 11) (q0 := j_69) rfl hj_69) rfl hl.1 rfl (Nat.le_of_ble_eq_true rfl) dX11_copyThings_93 ⟨Nat.le_of_ble_eq_true rfl, Nat.le_of_ble_eq_true rfl⟩ (fun r_77 u_78 H locs q_76 hP hD hS => ?_)
                rcases q_76 with ⟨rfl, f_79⟩ | ⟨q_80, rfl, f_81, f_82⟩ | ⟨q_83, rfl, f_84, f_85⟩
                · show _
                  cases f_79
                · show _
                  obtain rfl := Option.some.inj f_81
                  have hP : va_P (dC, dI) vwCl (cW g ty pl ac ft md Z (pRc P r_17 d1)) H := hP
                  have hD : va_D A (cW g ty pl ac ft md Z (pRc P r_17 d1)) := hD
                  refine lv_if_ne (tgt := 106) hx hb dX11_copyThings_96 (by decide) (fun _ => ?_) (fun c9 => absurd c9 (by decide)) 
                  refine lv_aload_n hx hb dX11_copyThings_106 rfl (lv_at hl 6 rfl) ?_
                  obtain ⟨j_86, r_87, i_88, hj_86, hr_89, ri_90, rk_91, rl_92, hi_88⟩ := cg_shelf (X := cX g ty pl ac ft md Z) (ty := ty) wf pre2 pre3
                  obtain rfl := Option.some.inj (hr_19.symm.trans hr_89)
                  refine va_getN (D := (dC, dI)) (ci := 11) (v := .ref r_17) (C := RX8) (T := TX8) (N := 3) hx hb hg inG8 hown hK hP j_86 hj_86 rfl 2 (by decide) (va_Nw.use (A := _) rfl (hT.1 3 (by decide))) (fun _ h9 => h9) rfl dX11_copyThings_107 ?_
                  refine lv_iload hx hb dX11_copyThings_110 (lv_at hl 7 rfl) ?_
                  refine lv_iload hx hb dX11_copyThings_112 (lv_at hl 1 rfl) ?_
                  refine lv_iadd hx hb dX11_copyThings_114 ?_
                  refine lv_aload hx hb dX11_copyThings_115 (lv_at hl 0 rfl) ?_
                  obtain ⟨i_93, hi_93⟩ := cg_8 (X := cX g ty pl ac ft md Z) (ty := ty) ri_90 rk_91
                  refine va_astqM hx hb hK hP hD hS i_93 1 hi_93 rfl (cI_any hT hK hP th_68.1 th_68.2) (by first | assumption | exact span_in (by assumption) (by assumption) (by assumption) (by assumption) | exact span_no (by assumption) (by assumption) | exact Option.some.inj (by assumption) | exact fun h9 => absurd (congrArg some h9) (by assumption) | exact sp_in J0 (by assumption) hs1 (by assumption) | exact sp_in J0 (by assumption) hs2 (by assumption) | exact sp_inB J0 (by assumption) hs1 (by assumption) | exact sp_inB J0 (by assumption) hs2 (by assumption)) dX11_copyThings_117 (fun H locs hP hD2 hS => ?_)
                  rw [cs_8 hD ri_90 rk_91 hi_93 _] at hP hD2
                  have hD := hD2
                  have hP : va_P (dC, dI) vwCl (cW g ty pl ac ft md Z (pRc (pRc P r_17 d1) r_17 (va_up ((pRc P r_17 d1).2.2.2.2.2.2.2 r_17) (j0 + k1).toNatClampNeg (some t_42)))) H := hP
                  have hD : va_D A (cW g ty pl ac ft md Z (pRc (pRc P r_17 d1) r_17 (va_up ((pRc P r_17 d1).2.2.2.2.2.2.2 r_17) (j0 + k1).toNatClampNeg (some t_42)))) := hD
                  refine lv_iinc (v := (k1 + 1)) (lv' := [(7, .int (k1 + 1)), (9, .ref t_42), (8, .int k1), (0, .ref (g 0)), (1, .ref x1), (2, .int i0), (3, .ref x2), (4, .int j0), (5, .int n0), (6, .int 0)]) hx hb dX11_copyThings_118 hl (k := 2) rfl rfl (by decide) rfl (fun ls hl => ?_)
                  refine lv_goto (tgt := 53) hx hb dX11_copyThings_121 (by decide) ?_
                  rw [pRc_step] at hP hD
                  exact IH _ (by exact hN ▸ th_dec J0 (by assumption)) (k1 + 1) _ _ _ _ rfl (by exact k1_nn J0 (by assumption)) (by first | exact th_goN hy12 J0 (by assumption) hs1 hs2 (by assumption) (by assumption) (by assumption) J1 | exact th_goS hy12 J0 (by assumption) hs1 hs2 (by assumption) (by assumption) (by assumption) (by assumption) J1) (by first | exact th_inN J2 | exact th_inS J2 (wf.2.2.2.2.1 _ _ _ (wf_arr wf pre0 pre1 hr_4).1 (wf_arr wf pre0 pre1 hr_4).2 (by assumption)) (by assumption)) hP hD hS (lv_sub hl [0, 3, 4, 5, 6, 7, 8, 9] rfl)
                · show _
                  obtain rfl := Option.some.inj f_84
                  have hP : va_P (dC, dI) vwCl (cW g ty pl ac ft md Z (pRc P r_17 d1)) H := hP
                  have hD : va_D A (cW g ty pl ac ft md Z (pRc P r_17 d1)) := hD
                  refine lv_if_ne (tgt := 106) hx hb dX11_copyThings_96 (by decide) (fun c9 => absurd (by decide) c9) (fun _ => ?_)
                  refine lv_aload_n hx hb dX11_copyThings_99 rfl (lv_at hl 3 rfl) ?_
                  refine lv_iconst (v := 5) hx hb dX11_copyThings_100 (by decide) ?_
                  refine cV_i (C := RX11) (n := 1) (rest := []) hx hb hml hown hg hT (c_X11_tell l dC dI g ty H.size pl ac ft md Z (pRc P r_17 d1) 5 ) (cv_of hg wM_X11_245 wN_X11_tell wL_X11_X11_tell wK_X11_tell wI_X11 (by decide +kernel) ⟨Nat.le_of_ble_eq_true rfl, Nat.le_of_ble_eq_true rfl⟩) hK hP hD hS hA (va_recv hK hP (ci := 13) (q0 := 0) rfl rfl) rfl hl.1 rfl (Nat.le_of_ble_eq_true rfl) dX11_copyThings_101 ⟨Nat.le_of_ble_eq_true rfl, Nat.le_of_ble_eq_true rfl⟩ (fun r_95 u_96 H locs q_94 hP hD hS => ?_)
                  obtain ⟨rfl, rfl⟩ := q_94
                  have hP : va_P (dC, dI) vwCl (cW g ty pl ac 5 md Z (pRc P r_17 d1)) H := hP
                  have hD : va_D A (cW g ty pl ac 5 md Z (pRc P r_17 d1)) := hD
                  refine lv_pop hx hb dX11_copyThings_104 rfl ?_
                  refine cr_v (wo := fun u : Int32 × cQ => cW g ty pl ac u.1 md Z u.2) ((5, (pRc P r_17 d1))) hx hb hr hlk hS hP hD ?_ dX11_copyThings_105
                  exact Or.inr (Or.inr (Or.inr (Or.inr ⟨_, _, _, rfl, (by first | assumption | (have h9 : n0 ≤ k1 := (by assumption); exact J1.symm.trans (th_end h9)) | (have h9 : ¬ n0 ≤ k1 := (by assumption); exact J1.symm.trans (th_no hy12 J0 h9 hs1 (by assumption) (by assumption) (by assumption))) | exact (th_bad J2 hyE (by assumption) (by assumption)).elim), (by first | assumption | (have h9 : n0 ≤ k1 := (by assumption); exact J1.symm.trans (th_end h9)) | (have h9 : ¬ n0 ≤ k1 := (by assumption); exact J1.symm.trans (th_no hy12 J0 h9 hs1 (by assumption) (by assumption) (by assumption))) | exact (th_bad J2 hyE (by assumption) (by assumption)).elim), (by first | assumption | (have h9 : n0 ≤ k1 := (by assumption); exact J1.symm.trans (th_end h9)) | (have h9 : ¬ n0 ≤ k1 := (by assumption); exact J1.symm.trans (th_no hy12 J0 h9 hs1 (by assumption) (by assumption) (by assumption))) | exact (th_bad J2 hyE (by assumption) (by assumption)).elim), (by first | assumption | (have h9 : n0 ≤ k1 := (by assumption); exact J1.symm.trans (th_end h9)) | (have h9 : ¬ n0 ≤ k1 := (by assumption); exact J1.symm.trans (th_no hy12 J0 h9 hs1 (by assumption) (by assumption) (by assumption))) | exact (th_bad J2 hyE (by assumption) (by assumption)).elim), (by first | assumption | (have h9 : n0 ≤ k1 := (by assumption); exact J1.symm.trans (th_end h9)) | (have h9 : ¬ n0 ≤ k1 := (by assumption); exact J1.symm.trans (th_no hy12 J0 h9 hs1 (by assumption) (by assumption) (by assumption))) | exact (th_bad J2 hyE (by assumption) (by assumption)).elim), (by first | assumption | (have h9 : n0 ≤ k1 := (by assumption); exact J1.symm.trans (th_end h9)) | (have h9 : ¬ n0 ≤ k1 := (by assumption); exact J1.symm.trans (th_no hy12 J0 h9 hs1 (by assumption) (by assumption) (by assumption))) | exact (th_bad J2 hyE (by assumption) (by assumption)).elim)⟩)))
        exact LOOP _ 0 (P.2.2.2.2.2.2.2 r_17) _ _ _ rfl (by decide) (by rfl) (by exact fun j t h9 => ⟨(wf.2.2.2.2.1 _ j t (wf_arr wf pre2 pre3 hr_19).1 (wf_arr wf pre2 pre3 hr_19).2 h9).1, (wf.2.2.2.2.1 _ j t (wf_arr wf pre2 pre3 hr_19).1 (wf_arr wf pre2 pre3 hr_19).2 h9).2, wf.2.2.2.2.2.2.2.2.1 _ _ j t pre2 pre3 hr_19 h9⟩) hP hD hS (lv_sub hl [0, 2, 3, 4, 5, 6, 7, 1] rfl)
      · show _
        refine lv_iload_n hx hb dX11_copyThings_37 rfl (lv_at hl 2 rfl) ?_
        refine lv_iload hx hb dX11_copyThings_38 (lv_at hl 4 rfl) ?_
        refine lv_icmp_ge (tgt := 47) hx hb dX11_copyThings_40 (by decide) (fun c_97 => ?_) (fun c_97 => ?_)
        · show _
          refine lv_iconst (v := 0) hx hb dX11_copyThings_47 (by decide) ?_
          refine lv_istore (lv' := [(6, .int 0), (0, .ref (g 0)), (1, .ref x1), (2, .int i0), (3, .ref x2), (4, .int j0), (5, .int n0)]) hx hb dX11_copyThings_48 hl (by decide) rfl (fun ls hl => ?_)
          refine lv_iconst (v := 0) hx hb dX11_copyThings_50 (by decide) ?_
          refine lv_istore (lv' := [(7, .int 0), (6, .int 0), (0, .ref (g 0)), (1, .ref x1), (2, .int i0), (3, .ref x2), (4, .int j0), (5, .int n0)]) hx hb dX11_copyThings_51 hl (by decide) rfl (fun ls hl => ?_)
          have hs1 : cSp i0 n0 (P.2.2.2.2.2.1 r_2) := span_in (by assumption) (by assumption) (by assumption) (by assumption)
          have hs2 : cSp j0 n0 (P.2.2.2.2.2.1 r_17) := span_in (by assumption) (by assumption) (by assumption) (by assumption)
          have hx12 : x1 = x2 := Option.some.inj (by assumption)
          have hyE : r_2 = r_17 := Option.some.inj (hr_4.symm.trans ((congrArg P.2.2.2.2.1 hx12).trans hr_19))
          have hij : j0 ≤ i0 := by assumption
          have hP : va_P (dC, dI) vwCl (cW g ty pl ac ft md Z (pRc P r_17 (P.2.2.2.2.2.2.2 r_17))) H := by rw [pRc_self]; exact hP
          have hD : va_D A (cW g ty pl ac ft md Z (pRc P r_17 (P.2.2.2.2.2.2.2 r_17))) := by rw [pRc_self]; exact hD
          have LOOP : ∀ (N : Nat) (k1 : Int32) (d1 : Nat → Option Nat) (H : Heap) (locs : List Loc) (ls : Array Slot), n0.toNatClampNeg - k1.toNatClampNeg = N → (¬ k1 < 0) → (d1 = va_cpy (P.2.2.2.2.2.2.2 r_2) (P.2.2.2.2.2.2.2 r_17) i0.toNatClampNeg j0.toNatClampNeg k1.toNatClampNeg) → (∀ j t, d1 j = some t → t ∈ P.1 ∧ P.2.1 t < 7 ∧ kOf (P.2.1 t) (P.2.2.1 t) (P.2.2.2.1 x2) = true) → (k1 ≤ n0) → va_P (dC, dI) vwCl (cW g ty pl ac ft md Z (pRc P r_17 d1)) H → va_D A (cW g ty pl ac ft md Z (pRc P r_17 d1)) → va_S A s.heap H locs → lv_has ls 10 [(7, .int k1), (0, .ref (g 0)), (1, .ref x1), (2, .int i0), (3, .ref x2), (4, .int j0), (5, .int n0), (6, .int 0)] → W p l e ({ frames := 2, cells := 0, slots := 0, locals := 298 }) s m ([.ref (g 0), .ref x1, .int i0, .ref x2, .int j0, .int n0]).toArray below meth c H locs 0 0 (MQ below (va_Qv (fun (u : Int32 × cQ) => (∃ y1 : Nat, (2, P) = u ∧ P.2.2.2.2.1 x1 = some y1 ∧ ¬ cSp i0 n0 (P.2.2.2.2.2.1 y1)) ∨ (∃ y1 y2 : Nat, (2, P) = u ∧ P.2.2.2.2.1 x1 = some y1 ∧ P.2.2.2.2.1 x2 = some y2 ∧ cSp i0 n0 (P.2.2.2.2.2.1 y1) ∧ ¬ cSp j0 n0 (P.2.2.2.2.2.1 y2)) ∨ (∃ y1 y2 : Nat, (ft, pRc P y2 (va_cpy (P.2.2.2.2.2.2.2 y1) (P.2.2.2.2.2.2.2 y2) i0.toNatClampNeg j0.toNatClampNeg n0.toNatClampNeg)) = u ∧ x1 = x2 ∧ P.2.2.2.2.1 x1 = some y1 ∧ P.2.2.2.2.1 x2 = some y2 ∧ cSp i0 n0 (P.2.2.2.2.2.1 y1) ∧ cSp j0 n0 (P.2.2.2.2.2.1 y2)) ∨ (∃ (y1 y2 : Nat) (d : Nat → Option Nat), (ft, pRc P y2 d) = u ∧ ¬ x1 = x2 ∧ P.2.2.2.2.1 x1 = some y1 ∧ P.2.2.2.2.1 x2 = some y2 ∧ cSp i0 n0 (P.2.2.2.2.2.1 y1) ∧ cSp j0 n0 (P.2.2.2.2.2.1 y2) ∧ cTh (kTk P x2) (P.2.2.2.2.2.2.2 y1) i0.toNatClampNeg j0.toNatClampNeg n0.toNatClampNeg 0 (P.2.2.2.2.2.2.2 y2) = (true, d)) ∨ (∃ (y1 y2 : Nat) (d : Nat → Option Nat), (5, pRc P y2 d) = u ∧ ¬ x1 = x2 ∧ P.2.2.2.2.1 x1 = some y1 ∧ P.2.2.2.2.1 x2 = some y2 ∧ cSp i0 n0 (P.2.2.2.2.2.1 y1) ∧ cSp j0 n0 (P.2.2.2.2.2.1 y2) ∧ cTh (kTk P x2) (P.2.2.2.2.2.2.2 y1) i0.toNatClampNeg j0.toNatClampNeg n0.toNatClampNeg 0 (P.2.2.2.2.2.2.2 y2) = (false, d))) (cB (dC, dI) (fun u : Int32 × cQ => cW g ty pl ac u.1 md Z u.2) A) A) ([.ref (g 0), .ref x1, .int i0, .ref x2, .int j0, .int n0]).toArray s 0 0 A) (F0 m 53 ls []) := by
            intro N
            induction N using Nat.strongRecOn with
            | _ N IH =>
              intro k1 d1 H locs ls hN J0 J1 J2 J3 hP hD hS hl
              have wf0 := wf
              have wf : cWF pl (pRc P r_17 d1) := wf_rcS wf0 pre2 pre3 hr_19 J2
              refine lv_iload hx hb dX11_copyThings_53 (lv_at hl 0 rfl) ?_
              refine lv_iload hx hb dX11_copyThings_55 (lv_at hl 6 rfl) ?_
              refine lv_icmp_ge (tgt := 124) hx hb dX11_copyThings_57 (by decide) (fun c_98 => ?_) (fun c_98 => ?_)
              · show _
                refine cr_v (wo := fun u : Int32 × cQ => cW g ty pl ac u.1 md Z u.2) ((ft, (pRc P r_17 d1))) hx hb hr hlk hS hP hD ?_ dX11_copyThings_124
                first | exact Or.inr (Or.inr (Or.inl ⟨r_2, r_17, (by first | rfl | (rw [bw_end J1 J3 (by assumption)]; done) | (rw [fw_end J1 J3 (by assumption)]; done)), (by first | assumption | exact span_in (by assumption) (by assumption) (by assumption) (by assumption) | exact span_no (by assumption) (by assumption) | exact Option.some.inj (by assumption) | exact fun h9 => absurd (congrArg some h9) (by assumption) | exact sp_in J0 (by assumption) hs1 (by assumption) | exact sp_in J0 (by assumption) hs2 (by assumption) | exact sp_inB J0 (by assumption) hs1 (by assumption) | exact sp_inB J0 (by assumption) hs2 (by assumption)), (by first | assumption | exact span_in (by assumption) (by assumption) (by assumption) (by assumption) | exact span_no (by assumption) (by assumption) | exact Option.some.inj (by assumption) | exact fun h9 => absurd (congrArg some h9) (by assumption) | exact sp_in J0 (by assumption) hs1 (by assumption) | exact sp_in J0 (by assumption) hs2 (by assumption) | exact sp_inB J0 (by assumption) hs1 (by assumption) | exact sp_inB J0 (by assumption) hs2 (by assumption)), (by first | assumption | exact span_in (by assumption) (by assumption) (by assumption) (by assumption) | exact span_no (by assumption) (by assumption) | exact Option.some.inj (by assumption) | exact fun h9 => absurd (congrArg some h9) (by assumption) | exact sp_in J0 (by assumption) hs1 (by assumption) | exact sp_in J0 (by assumption) hs2 (by assumption) | exact sp_inB J0 (by assumption) hs1 (by assumption) | exact sp_inB J0 (by assumption) hs2 (by assumption)), (by first | assumption | exact span_in (by assumption) (by assumption) (by assumption) (by assumption) | exact span_no (by assumption) (by assumption) | exact Option.some.inj (by assumption) | exact fun h9 => absurd (congrArg some h9) (by assumption) | exact sp_in J0 (by assumption) hs1 (by assumption) | exact sp_in J0 (by assumption) hs2 (by assumption) | exact sp_inB J0 (by assumption) hs1 (by assumption) | exact sp_inB J0 (by assumption) hs2 (by assumption)), (by first | assumption | exact span_in (by assumption) (by assumption) (by assumption) (by assumption) | exact span_no (by assumption) (by assumption) | exact Option.some.inj (by assumption) | exact fun h9 => absurd (congrArg some h9) (by assumption) | exact sp_in J0 (by assumption) hs1 (by assumption) | exact sp_in J0 (by assumption) hs2 (by assumption) | exact sp_inB J0 (by assumption) hs1 (by assumption) | exact sp_inB J0 (by assumption) hs2 (by assumption))⟩)) | exact Or.inr (Or.inr (Or.inr (Or.inl ⟨_, _, _, rfl, (by first | assumption | (have h9 : n0 ≤ k1 := (by assumption); exact J1.symm.trans (th_end h9)) | (have h9 : ¬ n0 ≤ k1 := (by assumption); exact J1.symm.trans (th_no hy12 J0 h9 hs1 (by assumption) (by assumption) (by assumption))) | exact (th_bad J2 hyE (by assumption) (by assumption)).elim), (by first | assumption | (have h9 : n0 ≤ k1 := (by assumption); exact J1.symm.trans (th_end h9)) | (have h9 : ¬ n0 ≤ k1 := (by assumption); exact J1.symm.trans (th_no hy12 J0 h9 hs1 (by assumption) (by assumption) (by assumption))) | exact (th_bad J2 hyE (by assumption) (by assumption)).elim), (by first | assumption | (have h9 : n0 ≤ k1 := (by assumption); exact J1.symm.trans (th_end h9)) | (have h9 : ¬ n0 ≤ k1 := (by assumption); exact J1.symm.trans (th_no hy12 J0 h9 hs1 (by assumption) (by assumption) (by assumption))) | exact (th_bad J2 hyE (by assumption) (by assumption)).elim), (by first | assumption | (have h9 : n0 ≤ k1 := (by assumption); exact J1.symm.trans (th_end h9)) | (have h9 : ¬ n0 ≤ k1 := (by assumption); exact J1.symm.trans (th_no hy12 J0 h9 hs1 (by assumption) (by assumption) (by assumption))) | exact (th_bad J2 hyE (by assumption) (by assumption)).elim), (by first | assumption | (have h9 : n0 ≤ k1 := (by assumption); exact J1.symm.trans (th_end h9)) | (have h9 : ¬ n0 ≤ k1 := (by assumption); exact J1.symm.trans (th_no hy12 J0 h9 hs1 (by assumption) (by assumption) (by assumption))) | exact (th_bad J2 hyE (by assumption) (by assumption)).elim), (by first | assumption | (have h9 : n0 ≤ k1 := (by assumption); exact J1.symm.trans (th_end h9)) | (have h9 : ¬ n0 ≤ k1 := (by assumption); exact J1.symm.trans (th_no hy12 J0 h9 hs1 (by assumption) (by assumption) (by assumption))) | exact (th_bad J2 hyE (by assumption) (by assumption)).elim)⟩)))
              · show _
                refine lv_iload hx hb dX11_copyThings_60 (lv_at hl 7 rfl) ?_
                refine lv_if_eq (tgt := 75) hx hb dX11_copyThings_62 (by decide) (fun _ => ?_) (fun c9 => absurd (by decide) c9) 
                refine lv_iload hx hb dX11_copyThings_75 (lv_at hl 0 rfl) ?_
                refine lv_istore (lv' := [(8, .int k1), (7, .int k1), (0, .ref (g 0)), (1, .ref x1), (2, .int i0), (3, .ref x2), (4, .int j0), (5, .int n0), (6, .int 0)]) hx hb dX11_copyThings_77 hl (by decide) rfl (fun ls hl => ?_)
                refine lv_aload_n hx hb dX11_copyThings_79 rfl (lv_at hl 3 rfl) ?_
                obtain ⟨j_99, r_100, i_101, hj_99, hr_102, ri_103, rk_104, rl_105, hi_101⟩ := cg_shelf (X := cX g ty pl ac ft md Z) (ty := ty) wf pre0 pre1
                obtain rfl := Option.some.inj (hr_4.symm.trans hr_102)
                refine va_getN (D := (dC, dI)) (ci := 11) (v := .ref r_2) (C := RX8) (T := TX8) (N := 3) hx hb hg inG8 hown hK hP j_99 hj_99 rfl 2 (by decide) (va_Nw.use (A := _) rfl (hT.1 3 (by decide))) (fun _ h9 => h9) rfl dX11_copyThings_80 ?_
                refine lv_iload_n hx hb dX11_copyThings_83 rfl (lv_at hl 4 rfl) ?_
                refine lv_iload hx hb dX11_copyThings_84 (lv_at hl 0 rfl) ?_
                refine lv_iadd hx hb dX11_copyThings_86 ?_
                obtain ⟨i_106, hi_106⟩ := cg_8 (X := cX g ty pl ac ft md Z) (ty := ty) ri_103 rk_104
                refine va_aldq hx hb hK hP i_106 1 hi_106 rfl (by first | assumption | exact span_in (by assumption) (by assumption) (by assumption) (by assumption) | exact span_no (by assumption) (by assumption) | exact Option.some.inj (by assumption) | exact fun h9 => absurd (congrArg some h9) (by assumption) | exact sp_in J0 (by assumption) hs1 (by assumption) | exact sp_in J0 (by assumption) hs2 (by assumption) | exact sp_inB J0 (by assumption) hs1 (by assumption) | exact sp_inB J0 (by assumption) hs2 (by assumption)) dX11_copyThings_87 ?_
                obtain ⟨o_107, ho_107⟩ : ∃ z, z = (pRc P r_17 d1).2.2.2.2.2.2.2 r_2 (i0 + k1).toNatClampNeg := ⟨_, rfl⟩
                rw [← ho_107]
                cases o_107 with
                | none =>
                  have ho_107 := ho_107.symm
                  refine lv_astoreN (lv' := [(9, .null), (8, .int k1), (7, .int k1), (0, .ref (g 0)), (1, .ref x1), (2, .int i0), (3, .ref x2), (4, .int j0), (5, .int n0), (6, .int 0)]) hx hb dX11_copyThings_88 hl (by decide) rfl (fun ls hl => ?_)
                  refine lv_aload_n hx hb dX11_copyThings_90 rfl (lv_at hl 6 rfl) ?_
                  refine lv_aloadN hx hb dX11_copyThings_91 (lv_at hl 0 rfl) ?_
                  obtain ⟨j_109, r_110, i_111, hj_109, hr_112, ri_113, rk_114, rl_115, hi_111⟩ := cg_shelf (X := cX g ty pl ac ft md Z) (ty := ty) wf pre2 pre3
                  obtain rfl := Option.some.inj (hr_19.symm.trans hr_112)
                  refine cV_i (C := RX8) (n := 1) (rest := []) hx hb hml hown hg hT (c_X8_takes l dC dI g ty H.size pl ac ft md Z (pRc P r_17 d1) x2 none wf pre2 pre3 (fun _ h9 => by cases h9)) (cv_of hg wM_X11_301 wN_X8_takes wL_X8_X8_takes wK_X8_takes wI_X8 (by decide +kernel) ⟨Nat.le_of_ble_eq_true rfl, Nat.le_of_ble_eq_true rfl⟩) hK hP hD hS hA (va_recv hK hP (ci := 11) (q0 := j_109) rfl hj_109) rfl hl.1 rfl (Nat.le_of_ble_eq_true rfl) dX11_copyThings_93 ⟨Nat.le_of_ble_eq_true rfl, Nat.le_of_ble_eq_true rfl⟩ (fun r_117 u_118 H locs q_116 hP hD hS => ?_)
                  rcases q_116 with ⟨rfl, f_119⟩ | ⟨q_120, rfl, f_121, f_122⟩ | ⟨q_123, rfl, f_124, f_125⟩
                  · show _
                    have hP : va_P (dC, dI) vwCl (cW g ty pl ac ft md Z (pRc P r_17 d1)) H := hP
                    have hD : va_D A (cW g ty pl ac ft md Z (pRc P r_17 d1)) := hD
                    refine lv_if_ne (tgt := 106) hx hb dX11_copyThings_96 (by decide) (fun _ => ?_) (fun c9 => absurd c9 (by decide)) 
                    refine lv_aload_n hx hb dX11_copyThings_106 rfl (lv_at hl 6 rfl) ?_
                    obtain ⟨j_126, r_127, i_128, hj_126, hr_129, ri_130, rk_131, rl_132, hi_128⟩ := cg_shelf (X := cX g ty pl ac ft md Z) (ty := ty) wf pre2 pre3
                    obtain rfl := Option.some.inj (hr_19.symm.trans hr_129)
                    refine va_getN (D := (dC, dI)) (ci := 11) (v := .ref r_17) (C := RX8) (T := TX8) (N := 3) hx hb hg inG8 hown hK hP j_126 hj_126 rfl 2 (by decide) (va_Nw.use (A := _) rfl (hT.1 3 (by decide))) (fun _ h9 => h9) rfl dX11_copyThings_107 ?_
                    refine lv_iload hx hb dX11_copyThings_110 (lv_at hl 7 rfl) ?_
                    refine lv_iload hx hb dX11_copyThings_112 (lv_at hl 1 rfl) ?_
                    refine lv_iadd hx hb dX11_copyThings_114 ?_
                    refine lv_aloadN hx hb dX11_copyThings_115 (lv_at hl 0 rfl) ?_
                    obtain ⟨i_133, hi_133⟩ := cg_8 (X := cX g ty pl ac ft md Z) (ty := ty) ri_130 rk_131
                    refine va_astqN hx hb hK hP hD hS i_133 1 hi_133 rfl (by first | assumption | exact span_in (by assumption) (by assumption) (by assumption) (by assumption) | exact span_no (by assumption) (by assumption) | exact Option.some.inj (by assumption) | exact fun h9 => absurd (congrArg some h9) (by assumption) | exact sp_in J0 (by assumption) hs1 (by assumption) | exact sp_in J0 (by assumption) hs2 (by assumption) | exact sp_inB J0 (by assumption) hs1 (by assumption) | exact sp_inB J0 (by assumption) hs2 (by assumption)) dX11_copyThings_117 (fun H locs hP hD2 hS => ?_)
                    rw [cs_8 hD ri_130 rk_131 hi_133 _] at hP hD2
                    have hD := hD2
                    have hP : va_P (dC, dI) vwCl (cW g ty pl ac ft md Z (pRc (pRc P r_17 d1) r_17 (va_up ((pRc P r_17 d1).2.2.2.2.2.2.2 r_17) (j0 + k1).toNatClampNeg none))) H := hP
                    have hD : va_D A (cW g ty pl ac ft md Z (pRc (pRc P r_17 d1) r_17 (va_up ((pRc P r_17 d1).2.2.2.2.2.2.2 r_17) (j0 + k1).toNatClampNeg none))) := hD
                    refine lv_iinc (v := (k1 + 1)) (lv' := [(7, .int (k1 + 1)), (9, .null), (8, .int k1), (0, .ref (g 0)), (1, .ref x1), (2, .int i0), (3, .ref x2), (4, .int j0), (5, .int n0), (6, .int 0)]) hx hb dX11_copyThings_118 hl (k := 2) rfl rfl (by decide) rfl (fun ls hl => ?_)
                    refine lv_goto (tgt := 53) hx hb dX11_copyThings_121 (by decide) ?_
                    rw [pRc_step] at hP hD
                    exact IH _ (by exact hN ▸ th_dec J0 (by assumption)) (k1 + 1) _ _ _ _ rfl (by exact k1_nn J0 (by assumption)) (by exact fw_go hyE J0 (by assumption) hs1 hs2 hij (by assumption) (by assumption) (by assumption) J1) (by first | exact th_inN J2 | exact th_inS J2 (wf.2.2.2.2.1 _ _ _ (wf_arr wf pre0 pre1 hr_4).1 (wf_arr wf pre0 pre1 hr_4).2 (by assumption)) (by assumption)) (by exact th_k1le J0 (by assumption)) hP hD hS (lv_sub hl [0, 3, 4, 5, 6, 7, 8, 9] rfl)
                  · show _
                    cases f_121
                  · show _
                    cases f_124
                | some t_108 =>
                  have ho_107 := ho_107.symm
                  have th_134 := wf.2.2.2.2.1 _ _ _ ri_103 rk_104 ho_107
                  refine lv_astore (lv' := [(9, .ref t_108), (8, .int k1), (7, .int k1), (0, .ref (g 0)), (1, .ref x1), (2, .int i0), (3, .ref x2), (4, .int j0), (5, .int n0), (6, .int 0)]) hx hb dX11_copyThings_88 hl (by decide) rfl (fun ls hl => ?_)
                  refine lv_aload_n hx hb dX11_copyThings_90 rfl (lv_at hl 6 rfl) ?_
                  refine lv_aload hx hb dX11_copyThings_91 (lv_at hl 0 rfl) ?_
                  obtain ⟨j_135, r_136, i_137, hj_135, hr_138, ri_139, rk_140, rl_141, hi_137⟩ := cg_shelf (X := cX g ty pl ac ft md Z) (ty := ty) wf pre2 pre3
                  obtain rfl := Option.some.inj (hr_19.symm.trans hr_138)
                  refine cV_i (C := RX8) (n := 1) (rest := []) hx hb hml hown hg hT (c_X8_takes l dC dI g ty H.size pl ac ft md Z (pRc P r_17 d1) x2 (some t_108) wf pre2 pre3 (fun _ h9 => by cases h9; exact ⟨th_134.1, th_134.2⟩)) (cv_of hg wM_X11_301 wN_X8_takes wL_X8_X8_takes wK_X8_takes wI_X8 (by decide +kernel) ⟨Nat.le_of_ble_eq_true rfl, Nat.le_of_ble_eq_true rfl⟩) hK hP hD hS hA (va_recv hK hP (ci := 11) (q0 := j_135) rfl hj_135) rfl hl.1 rfl (Nat.le_of_ble_eq_true rfl) dX11_copyThings_93 ⟨Nat.le_of_ble_eq_true rfl, Nat.le_of_ble_eq_true rfl⟩ (fun r_143 u_144 H locs q_142 hP hD hS => ?_)
                  rcases q_142 with ⟨rfl, f_145⟩ | ⟨q_146, rfl, f_147, f_148⟩ | ⟨q_149, rfl, f_150, f_151⟩
                  · show _
                    cases f_145
                  · show _
                    obtain rfl := Option.some.inj f_147
                    have hP : va_P (dC, dI) vwCl (cW g ty pl ac ft md Z (pRc P r_17 d1)) H := hP
                    have hD : va_D A (cW g ty pl ac ft md Z (pRc P r_17 d1)) := hD
                    refine lv_if_ne (tgt := 106) hx hb dX11_copyThings_96 (by decide) (fun _ => ?_) (fun c9 => absurd c9 (by decide)) 
                    refine lv_aload_n hx hb dX11_copyThings_106 rfl (lv_at hl 6 rfl) ?_
                    obtain ⟨j_152, r_153, i_154, hj_152, hr_155, ri_156, rk_157, rl_158, hi_154⟩ := cg_shelf (X := cX g ty pl ac ft md Z) (ty := ty) wf pre2 pre3
                    obtain rfl := Option.some.inj (hr_19.symm.trans hr_155)
                    refine va_getN (D := (dC, dI)) (ci := 11) (v := .ref r_17) (C := RX8) (T := TX8) (N := 3) hx hb hg inG8 hown hK hP j_152 hj_152 rfl 2 (by decide) (va_Nw.use (A := _) rfl (hT.1 3 (by decide))) (fun _ h9 => h9) rfl dX11_copyThings_107 ?_
                    refine lv_iload hx hb dX11_copyThings_110 (lv_at hl 7 rfl) ?_
                    refine lv_iload hx hb dX11_copyThings_112 (lv_at hl 1 rfl) ?_
                    refine lv_iadd hx hb dX11_copyThings_114 ?_
                    refine lv_aload hx hb dX11_copyThings_115 (lv_at hl 0 rfl) ?_
                    obtain ⟨i_159, hi_159⟩ := cg_8 (X := cX g ty pl ac ft md Z) (ty := ty) ri_156 rk_157
                    refine va_astqM hx hb hK hP hD hS i_159 1 hi_159 rfl (cI_any hT hK hP th_134.1 th_134.2) (by first | assumption | exact span_in (by assumption) (by assumption) (by assumption) (by assumption) | exact span_no (by assumption) (by assumption) | exact Option.some.inj (by assumption) | exact fun h9 => absurd (congrArg some h9) (by assumption) | exact sp_in J0 (by assumption) hs1 (by assumption) | exact sp_in J0 (by assumption) hs2 (by assumption) | exact sp_inB J0 (by assumption) hs1 (by assumption) | exact sp_inB J0 (by assumption) hs2 (by assumption)) dX11_copyThings_117 (fun H locs hP hD2 hS => ?_)
                    rw [cs_8 hD ri_156 rk_157 hi_159 _] at hP hD2
                    have hD := hD2
                    have hP : va_P (dC, dI) vwCl (cW g ty pl ac ft md Z (pRc (pRc P r_17 d1) r_17 (va_up ((pRc P r_17 d1).2.2.2.2.2.2.2 r_17) (j0 + k1).toNatClampNeg (some t_108)))) H := hP
                    have hD : va_D A (cW g ty pl ac ft md Z (pRc (pRc P r_17 d1) r_17 (va_up ((pRc P r_17 d1).2.2.2.2.2.2.2 r_17) (j0 + k1).toNatClampNeg (some t_108)))) := hD
                    refine lv_iinc (v := (k1 + 1)) (lv' := [(7, .int (k1 + 1)), (9, .ref t_108), (8, .int k1), (0, .ref (g 0)), (1, .ref x1), (2, .int i0), (3, .ref x2), (4, .int j0), (5, .int n0), (6, .int 0)]) hx hb dX11_copyThings_118 hl (k := 2) rfl rfl (by decide) rfl (fun ls hl => ?_)
                    refine lv_goto (tgt := 53) hx hb dX11_copyThings_121 (by decide) ?_
                    rw [pRc_step] at hP hD
                    exact IH _ (by exact hN ▸ th_dec J0 (by assumption)) (k1 + 1) _ _ _ _ rfl (by exact k1_nn J0 (by assumption)) (by exact fw_go hyE J0 (by assumption) hs1 hs2 hij (by assumption) (by assumption) (by assumption) J1) (by first | exact th_inN J2 | exact th_inS J2 (wf.2.2.2.2.1 _ _ _ (wf_arr wf pre0 pre1 hr_4).1 (wf_arr wf pre0 pre1 hr_4).2 (by assumption)) (by assumption)) (by exact th_k1le J0 (by assumption)) hP hD hS (lv_sub hl [0, 3, 4, 5, 6, 7, 8, 9] rfl)
                  · show _
                    obtain rfl := Option.some.inj f_150
                    have hP : va_P (dC, dI) vwCl (cW g ty pl ac ft md Z (pRc P r_17 d1)) H := hP
                    have hD : va_D A (cW g ty pl ac ft md Z (pRc P r_17 d1)) := hD
                    refine lv_if_ne (tgt := 106) hx hb dX11_copyThings_96 (by decide) (fun c9 => absurd (by decide) c9) (fun _ => ?_)
                    refine lv_aload_n hx hb dX11_copyThings_99 rfl (lv_at hl 3 rfl) ?_
                    refine lv_iconst (v := 5) hx hb dX11_copyThings_100 (by decide) ?_
                    refine cV_i (C := RX11) (n := 1) (rest := []) hx hb hml hown hg hT (c_X11_tell l dC dI g ty H.size pl ac ft md Z (pRc P r_17 d1) 5 ) (cv_of hg wM_X11_245 wN_X11_tell wL_X11_X11_tell wK_X11_tell wI_X11 (by decide +kernel) ⟨Nat.le_of_ble_eq_true rfl, Nat.le_of_ble_eq_true rfl⟩) hK hP hD hS hA (va_recv hK hP (ci := 13) (q0 := 0) rfl rfl) rfl hl.1 rfl (Nat.le_of_ble_eq_true rfl) dX11_copyThings_101 ⟨Nat.le_of_ble_eq_true rfl, Nat.le_of_ble_eq_true rfl⟩ (fun r_161 u_162 H locs q_160 hP hD hS => ?_)
                    obtain ⟨rfl, rfl⟩ := q_160
                    have hP : va_P (dC, dI) vwCl (cW g ty pl ac 5 md Z (pRc P r_17 d1)) H := hP
                    have hD : va_D A (cW g ty pl ac 5 md Z (pRc P r_17 d1)) := hD
                    refine lv_pop hx hb dX11_copyThings_104 rfl ?_
                    refine cr_v (wo := fun u : Int32 × cQ => cW g ty pl ac u.1 md Z u.2) ((5, (pRc P r_17 d1))) hx hb hr hlk hS hP hD ?_ dX11_copyThings_105
                    exact Or.inr (Or.inr (Or.inr (Or.inr ⟨_, _, _, rfl, (by first | assumption | (have h9 : n0 ≤ k1 := (by assumption); exact J1.symm.trans (th_end h9)) | (have h9 : ¬ n0 ≤ k1 := (by assumption); exact J1.symm.trans (th_no hy12 J0 h9 hs1 (by assumption) (by assumption) (by assumption))) | exact (th_bad J2 hyE (by assumption) (by assumption)).elim), (by first | assumption | (have h9 : n0 ≤ k1 := (by assumption); exact J1.symm.trans (th_end h9)) | (have h9 : ¬ n0 ≤ k1 := (by assumption); exact J1.symm.trans (th_no hy12 J0 h9 hs1 (by assumption) (by assumption) (by assumption))) | exact (th_bad J2 hyE (by assumption) (by assumption)).elim), (by first | assumption | (have h9 : n0 ≤ k1 := (by assumption); exact J1.symm.trans (th_end h9)) | (have h9 : ¬ n0 ≤ k1 := (by assumption); exact J1.symm.trans (th_no hy12 J0 h9 hs1 (by assumption) (by assumption) (by assumption))) | exact (th_bad J2 hyE (by assumption) (by assumption)).elim), (by first | assumption | (have h9 : n0 ≤ k1 := (by assumption); exact J1.symm.trans (th_end h9)) | (have h9 : ¬ n0 ≤ k1 := (by assumption); exact J1.symm.trans (th_no hy12 J0 h9 hs1 (by assumption) (by assumption) (by assumption))) | exact (th_bad J2 hyE (by assumption) (by assumption)).elim), (by first | assumption | (have h9 : n0 ≤ k1 := (by assumption); exact J1.symm.trans (th_end h9)) | (have h9 : ¬ n0 ≤ k1 := (by assumption); exact J1.symm.trans (th_no hy12 J0 h9 hs1 (by assumption) (by assumption) (by assumption))) | exact (th_bad J2 hyE (by assumption) (by assumption)).elim), (by first | assumption | (have h9 : n0 ≤ k1 := (by assumption); exact J1.symm.trans (th_end h9)) | (have h9 : ¬ n0 ≤ k1 := (by assumption); exact J1.symm.trans (th_no hy12 J0 h9 hs1 (by assumption) (by assumption) (by assumption))) | exact (th_bad J2 hyE (by assumption) (by assumption)).elim)⟩)))
          exact LOOP _ 0 (P.2.2.2.2.2.2.2 r_17) _ _ _ rfl (by decide) (by exact th_cpy0) (by exact fun j t h9 => ⟨(wf.2.2.2.2.1 _ j t (wf_arr wf pre2 pre3 hr_19).1 (wf_arr wf pre2 pre3 hr_19).2 h9).1, (wf.2.2.2.2.1 _ j t (wf_arr wf pre2 pre3 hr_19).1 (wf_arr wf pre2 pre3 hr_19).2 h9).2, wf.2.2.2.2.2.2.2.2.1 _ _ j t pre2 pre3 hr_19 h9⟩) (by exact th_nnle hs1.2.1) hP hD hS (lv_sub hl [0, 2, 3, 4, 5, 6, 7, 1] rfl)
        · show _
          refine lv_iconst (v := 1) hx hb dX11_copyThings_43 (by decide) ?_
          refine lv_goto (tgt := 48) hx hb dX11_copyThings_44 (by decide) ?_
          refine lv_istore (lv' := [(6, .int 1), (0, .ref (g 0)), (1, .ref x1), (2, .int i0), (3, .ref x2), (4, .int j0), (5, .int n0)]) hx hb dX11_copyThings_48 hl (by decide) rfl (fun ls hl => ?_)
          refine lv_iconst (v := 0) hx hb dX11_copyThings_50 (by decide) ?_
          refine lv_istore (lv' := [(7, .int 0), (6, .int 1), (0, .ref (g 0)), (1, .ref x1), (2, .int i0), (3, .ref x2), (4, .int j0), (5, .int n0)]) hx hb dX11_copyThings_51 hl (by decide) rfl (fun ls hl => ?_)
          have hs1 : cSp i0 n0 (P.2.2.2.2.2.1 r_2) := span_in (by assumption) (by assumption) (by assumption) (by assumption)
          have hs2 : cSp j0 n0 (P.2.2.2.2.2.1 r_17) := span_in (by assumption) (by assumption) (by assumption) (by assumption)
          have hx12 : x1 = x2 := Option.some.inj (by assumption)
          have hyE : r_2 = r_17 := Option.some.inj (hr_4.symm.trans ((congrArg P.2.2.2.2.1 hx12).trans hr_19))
          have hij : ¬ j0 ≤ i0 := by assumption
          have hP : va_P (dC, dI) vwCl (cW g ty pl ac ft md Z (pRc P r_17 (P.2.2.2.2.2.2.2 r_17))) H := by rw [pRc_self]; exact hP
          have hD : va_D A (cW g ty pl ac ft md Z (pRc P r_17 (P.2.2.2.2.2.2.2 r_17))) := by rw [pRc_self]; exact hD
          have LOOP : ∀ (N : Nat) (k1 : Int32) (d1 : Nat → Option Nat) (H : Heap) (locs : List Loc) (ls : Array Slot), n0.toNatClampNeg - k1.toNatClampNeg = N → (¬ k1 < 0) → (d1 = va_cpy (P.2.2.2.2.2.2.2 r_2) (P.2.2.2.2.2.2.2 r_17) (i0.toNatClampNeg + (n0.toNatClampNeg - k1.toNatClampNeg)) (j0.toNatClampNeg + (n0.toNatClampNeg - k1.toNatClampNeg)) k1.toNatClampNeg) → (∀ j t, d1 j = some t → t ∈ P.1 ∧ P.2.1 t < 7 ∧ kOf (P.2.1 t) (P.2.2.1 t) (P.2.2.2.1 x2) = true) → (k1 ≤ n0) → va_P (dC, dI) vwCl (cW g ty pl ac ft md Z (pRc P r_17 d1)) H → va_D A (cW g ty pl ac ft md Z (pRc P r_17 d1)) → va_S A s.heap H locs → lv_has ls 10 [(7, .int k1), (0, .ref (g 0)), (1, .ref x1), (2, .int i0), (3, .ref x2), (4, .int j0), (5, .int n0), (6, .int 1)] → W p l e ({ frames := 2, cells := 0, slots := 0, locals := 298 }) s m ([.ref (g 0), .ref x1, .int i0, .ref x2, .int j0, .int n0]).toArray below meth c H locs 0 0 (MQ below (va_Qv (fun (u : Int32 × cQ) => (∃ y1 : Nat, (2, P) = u ∧ P.2.2.2.2.1 x1 = some y1 ∧ ¬ cSp i0 n0 (P.2.2.2.2.2.1 y1)) ∨ (∃ y1 y2 : Nat, (2, P) = u ∧ P.2.2.2.2.1 x1 = some y1 ∧ P.2.2.2.2.1 x2 = some y2 ∧ cSp i0 n0 (P.2.2.2.2.2.1 y1) ∧ ¬ cSp j0 n0 (P.2.2.2.2.2.1 y2)) ∨ (∃ y1 y2 : Nat, (ft, pRc P y2 (va_cpy (P.2.2.2.2.2.2.2 y1) (P.2.2.2.2.2.2.2 y2) i0.toNatClampNeg j0.toNatClampNeg n0.toNatClampNeg)) = u ∧ x1 = x2 ∧ P.2.2.2.2.1 x1 = some y1 ∧ P.2.2.2.2.1 x2 = some y2 ∧ cSp i0 n0 (P.2.2.2.2.2.1 y1) ∧ cSp j0 n0 (P.2.2.2.2.2.1 y2)) ∨ (∃ (y1 y2 : Nat) (d : Nat → Option Nat), (ft, pRc P y2 d) = u ∧ ¬ x1 = x2 ∧ P.2.2.2.2.1 x1 = some y1 ∧ P.2.2.2.2.1 x2 = some y2 ∧ cSp i0 n0 (P.2.2.2.2.2.1 y1) ∧ cSp j0 n0 (P.2.2.2.2.2.1 y2) ∧ cTh (kTk P x2) (P.2.2.2.2.2.2.2 y1) i0.toNatClampNeg j0.toNatClampNeg n0.toNatClampNeg 0 (P.2.2.2.2.2.2.2 y2) = (true, d)) ∨ (∃ (y1 y2 : Nat) (d : Nat → Option Nat), (5, pRc P y2 d) = u ∧ ¬ x1 = x2 ∧ P.2.2.2.2.1 x1 = some y1 ∧ P.2.2.2.2.1 x2 = some y2 ∧ cSp i0 n0 (P.2.2.2.2.2.1 y1) ∧ cSp j0 n0 (P.2.2.2.2.2.1 y2) ∧ cTh (kTk P x2) (P.2.2.2.2.2.2.2 y1) i0.toNatClampNeg j0.toNatClampNeg n0.toNatClampNeg 0 (P.2.2.2.2.2.2.2 y2) = (false, d))) (cB (dC, dI) (fun u : Int32 × cQ => cW g ty pl ac u.1 md Z u.2) A) A) ([.ref (g 0), .ref x1, .int i0, .ref x2, .int j0, .int n0]).toArray s 0 0 A) (F0 m 53 ls []) := by
            intro N
            induction N using Nat.strongRecOn with
            | _ N IH =>
              intro k1 d1 H locs ls hN J0 J1 J2 J3 hP hD hS hl
              have wf0 := wf
              have wf : cWF pl (pRc P r_17 d1) := wf_rcS wf0 pre2 pre3 hr_19 J2
              refine lv_iload hx hb dX11_copyThings_53 (lv_at hl 0 rfl) ?_
              refine lv_iload hx hb dX11_copyThings_55 (lv_at hl 6 rfl) ?_
              refine lv_icmp_ge (tgt := 124) hx hb dX11_copyThings_57 (by decide) (fun c_163 => ?_) (fun c_163 => ?_)
              · show _
                refine cr_v (wo := fun u : Int32 × cQ => cW g ty pl ac u.1 md Z u.2) ((ft, (pRc P r_17 d1))) hx hb hr hlk hS hP hD ?_ dX11_copyThings_124
                first | exact Or.inr (Or.inr (Or.inl ⟨r_2, r_17, (by first | rfl | (rw [bw_end J1 J3 (by assumption)]; done) | (rw [fw_end J1 J3 (by assumption)]; done)), (by first | assumption | exact span_in (by assumption) (by assumption) (by assumption) (by assumption) | exact span_no (by assumption) (by assumption) | exact Option.some.inj (by assumption) | exact fun h9 => absurd (congrArg some h9) (by assumption) | exact sp_in J0 (by assumption) hs1 (by assumption) | exact sp_in J0 (by assumption) hs2 (by assumption) | exact sp_inB J0 (by assumption) hs1 (by assumption) | exact sp_inB J0 (by assumption) hs2 (by assumption)), (by first | assumption | exact span_in (by assumption) (by assumption) (by assumption) (by assumption) | exact span_no (by assumption) (by assumption) | exact Option.some.inj (by assumption) | exact fun h9 => absurd (congrArg some h9) (by assumption) | exact sp_in J0 (by assumption) hs1 (by assumption) | exact sp_in J0 (by assumption) hs2 (by assumption) | exact sp_inB J0 (by assumption) hs1 (by assumption) | exact sp_inB J0 (by assumption) hs2 (by assumption)), (by first | assumption | exact span_in (by assumption) (by assumption) (by assumption) (by assumption) | exact span_no (by assumption) (by assumption) | exact Option.some.inj (by assumption) | exact fun h9 => absurd (congrArg some h9) (by assumption) | exact sp_in J0 (by assumption) hs1 (by assumption) | exact sp_in J0 (by assumption) hs2 (by assumption) | exact sp_inB J0 (by assumption) hs1 (by assumption) | exact sp_inB J0 (by assumption) hs2 (by assumption)), (by first | assumption | exact span_in (by assumption) (by assumption) (by assumption) (by assumption) | exact span_no (by assumption) (by assumption) | exact Option.some.inj (by assumption) | exact fun h9 => absurd (congrArg some h9) (by assumption) | exact sp_in J0 (by assumption) hs1 (by assumption) | exact sp_in J0 (by assumption) hs2 (by assumption) | exact sp_inB J0 (by assumption) hs1 (by assumption) | exact sp_inB J0 (by assumption) hs2 (by assumption)), (by first | assumption | exact span_in (by assumption) (by assumption) (by assumption) (by assumption) | exact span_no (by assumption) (by assumption) | exact Option.some.inj (by assumption) | exact fun h9 => absurd (congrArg some h9) (by assumption) | exact sp_in J0 (by assumption) hs1 (by assumption) | exact sp_in J0 (by assumption) hs2 (by assumption) | exact sp_inB J0 (by assumption) hs1 (by assumption) | exact sp_inB J0 (by assumption) hs2 (by assumption))⟩)) | exact Or.inr (Or.inr (Or.inr (Or.inl ⟨_, _, _, rfl, (by first | assumption | (have h9 : n0 ≤ k1 := (by assumption); exact J1.symm.trans (th_end h9)) | (have h9 : ¬ n0 ≤ k1 := (by assumption); exact J1.symm.trans (th_no hy12 J0 h9 hs1 (by assumption) (by assumption) (by assumption))) | exact (th_bad J2 hyE (by assumption) (by assumption)).elim), (by first | assumption | (have h9 : n0 ≤ k1 := (by assumption); exact J1.symm.trans (th_end h9)) | (have h9 : ¬ n0 ≤ k1 := (by assumption); exact J1.symm.trans (th_no hy12 J0 h9 hs1 (by assumption) (by assumption) (by assumption))) | exact (th_bad J2 hyE (by assumption) (by assumption)).elim), (by first | assumption | (have h9 : n0 ≤ k1 := (by assumption); exact J1.symm.trans (th_end h9)) | (have h9 : ¬ n0 ≤ k1 := (by assumption); exact J1.symm.trans (th_no hy12 J0 h9 hs1 (by assumption) (by assumption) (by assumption))) | exact (th_bad J2 hyE (by assumption) (by assumption)).elim), (by first | assumption | (have h9 : n0 ≤ k1 := (by assumption); exact J1.symm.trans (th_end h9)) | (have h9 : ¬ n0 ≤ k1 := (by assumption); exact J1.symm.trans (th_no hy12 J0 h9 hs1 (by assumption) (by assumption) (by assumption))) | exact (th_bad J2 hyE (by assumption) (by assumption)).elim), (by first | assumption | (have h9 : n0 ≤ k1 := (by assumption); exact J1.symm.trans (th_end h9)) | (have h9 : ¬ n0 ≤ k1 := (by assumption); exact J1.symm.trans (th_no hy12 J0 h9 hs1 (by assumption) (by assumption) (by assumption))) | exact (th_bad J2 hyE (by assumption) (by assumption)).elim), (by first | assumption | (have h9 : n0 ≤ k1 := (by assumption); exact J1.symm.trans (th_end h9)) | (have h9 : ¬ n0 ≤ k1 := (by assumption); exact J1.symm.trans (th_no hy12 J0 h9 hs1 (by assumption) (by assumption) (by assumption))) | exact (th_bad J2 hyE (by assumption) (by assumption)).elim)⟩)))
              · show _
                refine lv_iload hx hb dX11_copyThings_60 (lv_at hl 7 rfl) ?_
                refine lv_if_eq (tgt := 75) hx hb dX11_copyThings_62 (by decide) (fun c9 => absurd c9 (by decide)) (fun _ => ?_)
                refine lv_iload hx hb dX11_copyThings_65 (lv_at hl 6 rfl) ?_
                refine lv_iconst (v := 1) hx hb dX11_copyThings_67 (by decide) ?_
                refine lv_isub hx hb dX11_copyThings_68 ?_
                refine lv_iload hx hb dX11_copyThings_69 (lv_at hl 0 rfl) ?_
                refine lv_isub hx hb dX11_copyThings_71 ?_
                refine lv_goto (tgt := 77) hx hb dX11_copyThings_72 (by decide) ?_
                refine lv_istore (lv' := [(8, .int ((n0 - 1) - k1)), (7, .int k1), (0, .ref (g 0)), (1, .ref x1), (2, .int i0), (3, .ref x2), (4, .int j0), (5, .int n0), (6, .int 1)]) hx hb dX11_copyThings_77 hl (by decide) rfl (fun ls hl => ?_)
                refine lv_aload_n hx hb dX11_copyThings_79 rfl (lv_at hl 3 rfl) ?_
                obtain ⟨j_164, r_165, i_166, hj_164, hr_167, ri_168, rk_169, rl_170, hi_166⟩ := cg_shelf (X := cX g ty pl ac ft md Z) (ty := ty) wf pre0 pre1
                obtain rfl := Option.some.inj (hr_4.symm.trans hr_167)
                refine va_getN (D := (dC, dI)) (ci := 11) (v := .ref r_2) (C := RX8) (T := TX8) (N := 3) hx hb hg inG8 hown hK hP j_164 hj_164 rfl 2 (by decide) (va_Nw.use (A := _) rfl (hT.1 3 (by decide))) (fun _ h9 => h9) rfl dX11_copyThings_80 ?_
                refine lv_iload_n hx hb dX11_copyThings_83 rfl (lv_at hl 4 rfl) ?_
                refine lv_iload hx hb dX11_copyThings_84 (lv_at hl 0 rfl) ?_
                refine lv_iadd hx hb dX11_copyThings_86 ?_
                obtain ⟨i_171, hi_171⟩ := cg_8 (X := cX g ty pl ac ft md Z) (ty := ty) ri_168 rk_169
                refine va_aldq hx hb hK hP i_171 1 hi_171 rfl (by first | assumption | exact span_in (by assumption) (by assumption) (by assumption) (by assumption) | exact span_no (by assumption) (by assumption) | exact Option.some.inj (by assumption) | exact fun h9 => absurd (congrArg some h9) (by assumption) | exact sp_in J0 (by assumption) hs1 (by assumption) | exact sp_in J0 (by assumption) hs2 (by assumption) | exact sp_inB J0 (by assumption) hs1 (by assumption) | exact sp_inB J0 (by assumption) hs2 (by assumption)) dX11_copyThings_87 ?_
                obtain ⟨o_172, ho_172⟩ : ∃ z, z = (pRc P r_17 d1).2.2.2.2.2.2.2 r_2 (i0 + ((n0 - 1) - k1)).toNatClampNeg := ⟨_, rfl⟩
                rw [← ho_172]
                cases o_172 with
                | none =>
                  have ho_172 := ho_172.symm
                  refine lv_astoreN (lv' := [(9, .null), (8, .int ((n0 - 1) - k1)), (7, .int k1), (0, .ref (g 0)), (1, .ref x1), (2, .int i0), (3, .ref x2), (4, .int j0), (5, .int n0), (6, .int 1)]) hx hb dX11_copyThings_88 hl (by decide) rfl (fun ls hl => ?_)
                  refine lv_aload_n hx hb dX11_copyThings_90 rfl (lv_at hl 6 rfl) ?_
                  refine lv_aloadN hx hb dX11_copyThings_91 (lv_at hl 0 rfl) ?_
                  obtain ⟨j_174, r_175, i_176, hj_174, hr_177, ri_178, rk_179, rl_180, hi_176⟩ := cg_shelf (X := cX g ty pl ac ft md Z) (ty := ty) wf pre2 pre3
                  obtain rfl := Option.some.inj (hr_19.symm.trans hr_177)
                  refine cV_i (C := RX8) (n := 1) (rest := []) hx hb hml hown hg hT (c_X8_takes l dC dI g ty H.size pl ac ft md Z (pRc P r_17 d1) x2 none wf pre2 pre3 (fun _ h9 => by cases h9)) (cv_of hg wM_X11_301 wN_X8_takes wL_X8_X8_takes wK_X8_takes wI_X8 (by decide +kernel) ⟨Nat.le_of_ble_eq_true rfl, Nat.le_of_ble_eq_true rfl⟩) hK hP hD hS hA (va_recv hK hP (ci := 11) (q0 := j_174) rfl hj_174) rfl hl.1 rfl (Nat.le_of_ble_eq_true rfl) dX11_copyThings_93 ⟨Nat.le_of_ble_eq_true rfl, Nat.le_of_ble_eq_true rfl⟩ (fun r_182 u_183 H locs q_181 hP hD hS => ?_)
                  rcases q_181 with ⟨rfl, f_184⟩ | ⟨q_185, rfl, f_186, f_187⟩ | ⟨q_188, rfl, f_189, f_190⟩
                  · show _
                    have hP : va_P (dC, dI) vwCl (cW g ty pl ac ft md Z (pRc P r_17 d1)) H := hP
                    have hD : va_D A (cW g ty pl ac ft md Z (pRc P r_17 d1)) := hD
                    refine lv_if_ne (tgt := 106) hx hb dX11_copyThings_96 (by decide) (fun _ => ?_) (fun c9 => absurd c9 (by decide)) 
                    refine lv_aload_n hx hb dX11_copyThings_106 rfl (lv_at hl 6 rfl) ?_
                    obtain ⟨j_191, r_192, i_193, hj_191, hr_194, ri_195, rk_196, rl_197, hi_193⟩ := cg_shelf (X := cX g ty pl ac ft md Z) (ty := ty) wf pre2 pre3
                    obtain rfl := Option.some.inj (hr_19.symm.trans hr_194)
                    refine va_getN (D := (dC, dI)) (ci := 11) (v := .ref r_17) (C := RX8) (T := TX8) (N := 3) hx hb hg inG8 hown hK hP j_191 hj_191 rfl 2 (by decide) (va_Nw.use (A := _) rfl (hT.1 3 (by decide))) (fun _ h9 => h9) rfl dX11_copyThings_107 ?_
                    refine lv_iload hx hb dX11_copyThings_110 (lv_at hl 7 rfl) ?_
                    refine lv_iload hx hb dX11_copyThings_112 (lv_at hl 1 rfl) ?_
                    refine lv_iadd hx hb dX11_copyThings_114 ?_
                    refine lv_aloadN hx hb dX11_copyThings_115 (lv_at hl 0 rfl) ?_
                    obtain ⟨i_198, hi_198⟩ := cg_8 (X := cX g ty pl ac ft md Z) (ty := ty) ri_195 rk_196
                    refine va_astqN hx hb hK hP hD hS i_198 1 hi_198 rfl (by first | assumption | exact span_in (by assumption) (by assumption) (by assumption) (by assumption) | exact span_no (by assumption) (by assumption) | exact Option.some.inj (by assumption) | exact fun h9 => absurd (congrArg some h9) (by assumption) | exact sp_in J0 (by assumption) hs1 (by assumption) | exact sp_in J0 (by assumption) hs2 (by assumption) | exact sp_inB J0 (by assumption) hs1 (by assumption) | exact sp_inB J0 (by assumption) hs2 (by assumption)) dX11_copyThings_117 (fun H locs hP hD2 hS => ?_)
                    rw [cs_8 hD ri_195 rk_196 hi_198 _] at hP hD2
                    have hD := hD2
                    have hP : va_P (dC, dI) vwCl (cW g ty pl ac ft md Z (pRc (pRc P r_17 d1) r_17 (va_up ((pRc P r_17 d1).2.2.2.2.2.2.2 r_17) (j0 + ((n0 - 1) - k1)).toNatClampNeg none))) H := hP
                    have hD : va_D A (cW g ty pl ac ft md Z (pRc (pRc P r_17 d1) r_17 (va_up ((pRc P r_17 d1).2.2.2.2.2.2.2 r_17) (j0 + ((n0 - 1) - k1)).toNatClampNeg none))) := hD
                    refine lv_iinc (v := (k1 + 1)) (lv' := [(7, .int (k1 + 1)), (9, .null), (8, .int ((n0 - 1) - k1)), (0, .ref (g 0)), (1, .ref x1), (2, .int i0), (3, .ref x2), (4, .int j0), (5, .int n0), (6, .int 1)]) hx hb dX11_copyThings_118 hl (k := 2) rfl rfl (by decide) rfl (fun ls hl => ?_)
                    refine lv_goto (tgt := 53) hx hb dX11_copyThings_121 (by decide) ?_
                    rw [pRc_step] at hP hD
                    exact IH _ (by exact hN ▸ th_dec J0 (by assumption)) (k1 + 1) _ _ _ _ rfl (by exact k1_nn J0 (by assumption)) (by exact bw_go hyE J0 (by assumption) hs1 hs2 hij (by assumption) (by assumption) (by assumption) J1) (by first | exact th_inN J2 | exact th_inS J2 (wf.2.2.2.2.1 _ _ _ (wf_arr wf pre0 pre1 hr_4).1 (wf_arr wf pre0 pre1 hr_4).2 (by assumption)) (by assumption)) (by exact th_k1le J0 (by assumption)) hP hD hS (lv_sub hl [0, 3, 4, 5, 6, 7, 8, 9] rfl)
                  · show _
                    cases f_186
                  · show _
                    cases f_189
                | some t_173 =>
                  have ho_172 := ho_172.symm
                  have th_199 := wf.2.2.2.2.1 _ _ _ ri_168 rk_169 ho_172
                  refine lv_astore (lv' := [(9, .ref t_173), (8, .int ((n0 - 1) - k1)), (7, .int k1), (0, .ref (g 0)), (1, .ref x1), (2, .int i0), (3, .ref x2), (4, .int j0), (5, .int n0), (6, .int 1)]) hx hb dX11_copyThings_88 hl (by decide) rfl (fun ls hl => ?_)
                  refine lv_aload_n hx hb dX11_copyThings_90 rfl (lv_at hl 6 rfl) ?_
                  refine lv_aload hx hb dX11_copyThings_91 (lv_at hl 0 rfl) ?_
                  obtain ⟨j_200, r_201, i_202, hj_200, hr_203, ri_204, rk_205, rl_206, hi_202⟩ := cg_shelf (X := cX g ty pl ac ft md Z) (ty := ty) wf pre2 pre3
                  obtain rfl := Option.some.inj (hr_19.symm.trans hr_203)
                  refine cV_i (C := RX8) (n := 1) (rest := []) hx hb hml hown hg hT (c_X8_takes l dC dI g ty H.size pl ac ft md Z (pRc P r_17 d1) x2 (some t_173) wf pre2 pre3 (fun _ h9 => by cases h9; exact ⟨th_199.1, th_199.2⟩)) (cv_of hg wM_X11_301 wN_X8_takes wL_X8_X8_takes wK_X8_takes wI_X8 (by decide +kernel) ⟨Nat.le_of_ble_eq_true rfl, Nat.le_of_ble_eq_true rfl⟩) hK hP hD hS hA (va_recv hK hP (ci := 11) (q0 := j_200) rfl hj_200) rfl hl.1 rfl (Nat.le_of_ble_eq_true rfl) dX11_copyThings_93 ⟨Nat.le_of_ble_eq_true rfl, Nat.le_of_ble_eq_true rfl⟩ (fun r_208 u_209 H locs q_207 hP hD hS => ?_)
                  rcases q_207 with ⟨rfl, f_210⟩ | ⟨q_211, rfl, f_212, f_213⟩ | ⟨q_214, rfl, f_215, f_216⟩
                  · show _
                    cases f_210
                  · show _
                    obtain rfl := Option.some.inj f_212
                    have hP : va_P (dC, dI) vwCl (cW g ty pl ac ft md Z (pRc P r_17 d1)) H := hP
                    have hD : va_D A (cW g ty pl ac ft md Z (pRc P r_17 d1)) := hD
                    refine lv_if_ne (tgt := 106) hx hb dX11_copyThings_96 (by decide) (fun _ => ?_) (fun c9 => absurd c9 (by decide)) 
                    refine lv_aload_n hx hb dX11_copyThings_106 rfl (lv_at hl 6 rfl) ?_
                    obtain ⟨j_217, r_218, i_219, hj_217, hr_220, ri_221, rk_222, rl_223, hi_219⟩ := cg_shelf (X := cX g ty pl ac ft md Z) (ty := ty) wf pre2 pre3
                    obtain rfl := Option.some.inj (hr_19.symm.trans hr_220)
                    refine va_getN (D := (dC, dI)) (ci := 11) (v := .ref r_17) (C := RX8) (T := TX8) (N := 3) hx hb hg inG8 hown hK hP j_217 hj_217 rfl 2 (by decide) (va_Nw.use (A := _) rfl (hT.1 3 (by decide))) (fun _ h9 => h9) rfl dX11_copyThings_107 ?_
                    refine lv_iload hx hb dX11_copyThings_110 (lv_at hl 7 rfl) ?_
                    refine lv_iload hx hb dX11_copyThings_112 (lv_at hl 1 rfl) ?_
                    refine lv_iadd hx hb dX11_copyThings_114 ?_
                    refine lv_aload hx hb dX11_copyThings_115 (lv_at hl 0 rfl) ?_
                    obtain ⟨i_224, hi_224⟩ := cg_8 (X := cX g ty pl ac ft md Z) (ty := ty) ri_221 rk_222
                    refine va_astqM hx hb hK hP hD hS i_224 1 hi_224 rfl (cI_any hT hK hP th_199.1 th_199.2) (by first | assumption | exact span_in (by assumption) (by assumption) (by assumption) (by assumption) | exact span_no (by assumption) (by assumption) | exact Option.some.inj (by assumption) | exact fun h9 => absurd (congrArg some h9) (by assumption) | exact sp_in J0 (by assumption) hs1 (by assumption) | exact sp_in J0 (by assumption) hs2 (by assumption) | exact sp_inB J0 (by assumption) hs1 (by assumption) | exact sp_inB J0 (by assumption) hs2 (by assumption)) dX11_copyThings_117 (fun H locs hP hD2 hS => ?_)
                    rw [cs_8 hD ri_221 rk_222 hi_224 _] at hP hD2
                    have hD := hD2
                    have hP : va_P (dC, dI) vwCl (cW g ty pl ac ft md Z (pRc (pRc P r_17 d1) r_17 (va_up ((pRc P r_17 d1).2.2.2.2.2.2.2 r_17) (j0 + ((n0 - 1) - k1)).toNatClampNeg (some t_173)))) H := hP
                    have hD : va_D A (cW g ty pl ac ft md Z (pRc (pRc P r_17 d1) r_17 (va_up ((pRc P r_17 d1).2.2.2.2.2.2.2 r_17) (j0 + ((n0 - 1) - k1)).toNatClampNeg (some t_173)))) := hD
                    refine lv_iinc (v := (k1 + 1)) (lv' := [(7, .int (k1 + 1)), (9, .ref t_173), (8, .int ((n0 - 1) - k1)), (0, .ref (g 0)), (1, .ref x1), (2, .int i0), (3, .ref x2), (4, .int j0), (5, .int n0), (6, .int 1)]) hx hb dX11_copyThings_118 hl (k := 2) rfl rfl (by decide) rfl (fun ls hl => ?_)
                    refine lv_goto (tgt := 53) hx hb dX11_copyThings_121 (by decide) ?_
                    rw [pRc_step] at hP hD
                    exact IH _ (by exact hN ▸ th_dec J0 (by assumption)) (k1 + 1) _ _ _ _ rfl (by exact k1_nn J0 (by assumption)) (by exact bw_go hyE J0 (by assumption) hs1 hs2 hij (by assumption) (by assumption) (by assumption) J1) (by first | exact th_inN J2 | exact th_inS J2 (wf.2.2.2.2.1 _ _ _ (wf_arr wf pre0 pre1 hr_4).1 (wf_arr wf pre0 pre1 hr_4).2 (by assumption)) (by assumption)) (by exact th_k1le J0 (by assumption)) hP hD hS (lv_sub hl [0, 3, 4, 5, 6, 7, 8, 9] rfl)
                  · show _
                    obtain rfl := Option.some.inj f_215
                    have hP : va_P (dC, dI) vwCl (cW g ty pl ac ft md Z (pRc P r_17 d1)) H := hP
                    have hD : va_D A (cW g ty pl ac ft md Z (pRc P r_17 d1)) := hD
                    refine lv_if_ne (tgt := 106) hx hb dX11_copyThings_96 (by decide) (fun c9 => absurd (by decide) c9) (fun _ => ?_)
                    refine lv_aload_n hx hb dX11_copyThings_99 rfl (lv_at hl 3 rfl) ?_
                    refine lv_iconst (v := 5) hx hb dX11_copyThings_100 (by decide) ?_
                    refine cV_i (C := RX11) (n := 1) (rest := []) hx hb hml hown hg hT (c_X11_tell l dC dI g ty H.size pl ac ft md Z (pRc P r_17 d1) 5 ) (cv_of hg wM_X11_245 wN_X11_tell wL_X11_X11_tell wK_X11_tell wI_X11 (by decide +kernel) ⟨Nat.le_of_ble_eq_true rfl, Nat.le_of_ble_eq_true rfl⟩) hK hP hD hS hA (va_recv hK hP (ci := 13) (q0 := 0) rfl rfl) rfl hl.1 rfl (Nat.le_of_ble_eq_true rfl) dX11_copyThings_101 ⟨Nat.le_of_ble_eq_true rfl, Nat.le_of_ble_eq_true rfl⟩ (fun r_226 u_227 H locs q_225 hP hD hS => ?_)
                    obtain ⟨rfl, rfl⟩ := q_225
                    have hP : va_P (dC, dI) vwCl (cW g ty pl ac 5 md Z (pRc P r_17 d1)) H := hP
                    have hD : va_D A (cW g ty pl ac 5 md Z (pRc P r_17 d1)) := hD
                    refine lv_pop hx hb dX11_copyThings_104 rfl ?_
                    refine cr_v (wo := fun u : Int32 × cQ => cW g ty pl ac u.1 md Z u.2) ((5, (pRc P r_17 d1))) hx hb hr hlk hS hP hD ?_ dX11_copyThings_105
                    exact Or.inr (Or.inr (Or.inr (Or.inr ⟨_, _, _, rfl, (by first | assumption | (have h9 : n0 ≤ k1 := (by assumption); exact J1.symm.trans (th_end h9)) | (have h9 : ¬ n0 ≤ k1 := (by assumption); exact J1.symm.trans (th_no hy12 J0 h9 hs1 (by assumption) (by assumption) (by assumption))) | exact (th_bad J2 hyE (by assumption) (by assumption)).elim), (by first | assumption | (have h9 : n0 ≤ k1 := (by assumption); exact J1.symm.trans (th_end h9)) | (have h9 : ¬ n0 ≤ k1 := (by assumption); exact J1.symm.trans (th_no hy12 J0 h9 hs1 (by assumption) (by assumption) (by assumption))) | exact (th_bad J2 hyE (by assumption) (by assumption)).elim), (by first | assumption | (have h9 : n0 ≤ k1 := (by assumption); exact J1.symm.trans (th_end h9)) | (have h9 : ¬ n0 ≤ k1 := (by assumption); exact J1.symm.trans (th_no hy12 J0 h9 hs1 (by assumption) (by assumption) (by assumption))) | exact (th_bad J2 hyE (by assumption) (by assumption)).elim), (by first | assumption | (have h9 : n0 ≤ k1 := (by assumption); exact J1.symm.trans (th_end h9)) | (have h9 : ¬ n0 ≤ k1 := (by assumption); exact J1.symm.trans (th_no hy12 J0 h9 hs1 (by assumption) (by assumption) (by assumption))) | exact (th_bad J2 hyE (by assumption) (by assumption)).elim), (by first | assumption | (have h9 : n0 ≤ k1 := (by assumption); exact J1.symm.trans (th_end h9)) | (have h9 : ¬ n0 ≤ k1 := (by assumption); exact J1.symm.trans (th_no hy12 J0 h9 hs1 (by assumption) (by assumption) (by assumption))) | exact (th_bad J2 hyE (by assumption) (by assumption)).elim), (by first | assumption | (have h9 : n0 ≤ k1 := (by assumption); exact J1.symm.trans (th_end h9)) | (have h9 : ¬ n0 ≤ k1 := (by assumption); exact J1.symm.trans (th_no hy12 J0 h9 hs1 (by assumption) (by assumption) (by assumption))) | exact (th_bad J2 hyE (by assumption) (by assumption)).elim)⟩)))
          exact LOOP _ 0 (P.2.2.2.2.2.2.2 r_17) _ _ _ rfl (by decide) (by exact th_cpy0) (by exact fun j t h9 => ⟨(wf.2.2.2.2.1 _ j t (wf_arr wf pre2 pre3 hr_19).1 (wf_arr wf pre2 pre3 hr_19).2 h9).1, (wf.2.2.2.2.1 _ j t (wf_arr wf pre2 pre3 hr_19).1 (wf_arr wf pre2 pre3 hr_19).2 h9).2, wf.2.2.2.2.2.2.2.2.1 _ _ j t pre2 pre3 hr_19 h9⟩) (by exact th_nnle hs1.2.1) hP hD hS (lv_sub hl [0, 2, 3, 4, 5, 6, 7, 1] rfl)
    · show _
      have hP : va_P (dC, dI) vwCl (cW g ty pl ac 2 md Z P) H := hP
      have hD : va_D A (cW g ty pl ac 2 md Z P) := hD
      refine lv_if_ne (tgt := 32) hx hb dX11_copyThings_28 (by decide) (fun c9 => absurd (by decide) c9) (fun _ => ?_)
      refine cr_v (wo := fun u : Int32 × cQ => cW g ty pl ac u.1 md Z u.2) ((2, P)) hx hb hr hlk hS hP hD ?_ dX11_copyThings_31
      first | exact Or.inl ⟨_, rfl, (by first | assumption | exact span_in (by assumption) (by assumption) (by assumption) (by assumption) | exact span_no (by assumption) (by assumption) | exact Option.some.inj (by assumption) | exact fun h9 => absurd (congrArg some h9) (by assumption) | exact sp_in J0 (by assumption) hs1 (by assumption) | exact sp_in J0 (by assumption) hs2 (by assumption) | exact sp_inB J0 (by assumption) hs1 (by assumption) | exact sp_inB J0 (by assumption) hs2 (by assumption)), (by first | assumption | exact span_in (by assumption) (by assumption) (by assumption) (by assumption) | exact span_no (by assumption) (by assumption) | exact Option.some.inj (by assumption) | exact fun h9 => absurd (congrArg some h9) (by assumption) | exact sp_in J0 (by assumption) hs1 (by assumption) | exact sp_in J0 (by assumption) hs2 (by assumption) | exact sp_inB J0 (by assumption) hs1 (by assumption) | exact sp_inB J0 (by assumption) hs2 (by assumption))⟩ | exact Or.inr (Or.inl ⟨_, _, rfl, (by first | assumption | exact span_in (by assumption) (by assumption) (by assumption) (by assumption) | exact span_no (by assumption) (by assumption) | exact Option.some.inj (by assumption) | exact fun h9 => absurd (congrArg some h9) (by assumption) | exact sp_in J0 (by assumption) hs1 (by assumption) | exact sp_in J0 (by assumption) hs2 (by assumption) | exact sp_inB J0 (by assumption) hs1 (by assumption) | exact sp_inB J0 (by assumption) hs2 (by assumption)), (by first | assumption | exact span_in (by assumption) (by assumption) (by assumption) (by assumption) | exact span_no (by assumption) (by assumption) | exact Option.some.inj (by assumption) | exact fun h9 => absurd (congrArg some h9) (by assumption) | exact sp_in J0 (by assumption) hs1 (by assumption) | exact sp_in J0 (by assumption) hs2 (by assumption) | exact sp_inB J0 (by assumption) hs1 (by assumption) | exact sp_inB J0 (by assumption) hs2 (by assumption)), (by first | assumption | exact span_in (by assumption) (by assumption) (by assumption) (by assumption) | exact span_no (by assumption) (by assumption) | exact Option.some.inj (by assumption) | exact fun h9 => absurd (congrArg some h9) (by assumption) | exact sp_in J0 (by assumption) hs1 (by assumption) | exact sp_in J0 (by assumption) hs2 (by assumption) | exact sp_inB J0 (by assumption) hs1 (by assumption) | exact sp_inB J0 (by assumption) hs2 (by assumption)), (by first | assumption | exact span_in (by assumption) (by assumption) (by assumption) (by assumption) | exact span_no (by assumption) (by assumption) | exact Option.some.inj (by assumption) | exact fun h9 => absurd (congrArg some h9) (by assumption) | exact sp_in J0 (by assumption) hs1 (by assumption) | exact sp_in J0 (by assumption) hs2 (by assumption) | exact sp_inB J0 (by assumption) hs1 (by assumption) | exact sp_inB J0 (by assumption) hs2 (by assumption))⟩)
  · show _
    have hP : va_P (dC, dI) vwCl (cW g ty pl ac 2 md Z P) H := hP
    have hD : va_D A (cW g ty pl ac 2 md Z P) := hD
    refine lv_if_eq (tgt := 31) hx hb dX11_copyThings_12 (by decide) (fun _ => ?_) (fun c9 => absurd (by decide) c9) 
    refine cr_v (wo := fun u : Int32 × cQ => cW g ty pl ac u.1 md Z u.2) ((2, P)) hx hb hr hlk hS hP hD ?_ dX11_copyThings_31
    first | exact Or.inl ⟨_, rfl, (by first | assumption | exact span_in (by assumption) (by assumption) (by assumption) (by assumption) | exact span_no (by assumption) (by assumption) | exact Option.some.inj (by assumption) | exact fun h9 => absurd (congrArg some h9) (by assumption) | exact sp_in J0 (by assumption) hs1 (by assumption) | exact sp_in J0 (by assumption) hs2 (by assumption) | exact sp_inB J0 (by assumption) hs1 (by assumption) | exact sp_inB J0 (by assumption) hs2 (by assumption)), (by first | assumption | exact span_in (by assumption) (by assumption) (by assumption) (by assumption) | exact span_no (by assumption) (by assumption) | exact Option.some.inj (by assumption) | exact fun h9 => absurd (congrArg some h9) (by assumption) | exact sp_in J0 (by assumption) hs1 (by assumption) | exact sp_in J0 (by assumption) hs2 (by assumption) | exact sp_inB J0 (by assumption) hs1 (by assumption) | exact sp_inB J0 (by assumption) hs2 (by assumption))⟩ | exact Or.inr (Or.inl ⟨_, _, rfl, (by first | assumption | exact span_in (by assumption) (by assumption) (by assumption) (by assumption) | exact span_no (by assumption) (by assumption) | exact Option.some.inj (by assumption) | exact fun h9 => absurd (congrArg some h9) (by assumption) | exact sp_in J0 (by assumption) hs1 (by assumption) | exact sp_in J0 (by assumption) hs2 (by assumption) | exact sp_inB J0 (by assumption) hs1 (by assumption) | exact sp_inB J0 (by assumption) hs2 (by assumption)), (by first | assumption | exact span_in (by assumption) (by assumption) (by assumption) (by assumption) | exact span_no (by assumption) (by assumption) | exact Option.some.inj (by assumption) | exact fun h9 => absurd (congrArg some h9) (by assumption) | exact sp_in J0 (by assumption) hs1 (by assumption) | exact sp_in J0 (by assumption) hs2 (by assumption) | exact sp_inB J0 (by assumption) hs1 (by assumption) | exact sp_inB J0 (by assumption) hs2 (by assumption)), (by first | assumption | exact span_in (by assumption) (by assumption) (by assumption) (by assumption) | exact span_no (by assumption) (by assumption) | exact Option.some.inj (by assumption) | exact fun h9 => absurd (congrArg some h9) (by assumption) | exact sp_in J0 (by assumption) hs1 (by assumption) | exact sp_in J0 (by assumption) hs2 (by assumption) | exact sp_inB J0 (by assumption) hs1 (by assumption) | exact sp_inB J0 (by assumption) hs2 (by assumption)), (by first | assumption | exact span_in (by assumption) (by assumption) (by assumption) (by assumption) | exact span_no (by assumption) (by assumption) | exact Option.some.inj (by assumption) | exact fun h9 => absurd (congrArg some h9) (by assumption) | exact sp_in J0 (by assumption) hs1 (by assumption) | exact sp_in J0 (by assumption) hs2 (by assumption) | exact sp_inB J0 (by assumption) hs1 (by assumption) | exact sp_inB J0 (by assumption) hs2 (by assumption))⟩)

/-! ===== rounding in longs is the rounding of the formats ===== -/
section Near
/-- what the rounding asks of a format -/
def fOk (f : FP.Core.Fmt) : Prop := 2 ≤ f.p ∧ f.qmin + (f.p : Int) ≤ 1 ∧ 64 ≤ f.qmax ∧ (64 - f.qmin).toNat + 2 < f.exps ∧ 2 ^ f.p = 2 * f.tails
theorem f_32 : fOk FP.Core.b32 := by unfold fOk; decide
theorem f_64 : fOk FP.Core.b64 := by unfold fOk; decide
theorem f_lead {n : Nat} (hn : 0 < n) : FP.Core.leading n 1 = (n.log2 : Int) := by
  have h1 : Nat.log2 1 = 0 := by decide
  have h2 := Nat.log2_self_le (Nat.ne_of_gt hn)
  unfold FP.Core.leading
  rw [h1]
  have h3 : ((n.log2 : Int) - ((0 : Nat) : Int)) = (n.log2 : Int) := by omega
  simp only [h3]
  have h4 : ((n.log2 : Int)).toNat = n.log2 := by omega
  have h5 : (-(n.log2 : Int)).toNat = 0 := by omega
  rw [h4, h5, if_pos (by simpa using h2)]
theorem f_quant {f : FP.Core.Fmt} (hf : fOk f) {n : Nat} (hn : 0 < n) : FP.Core.quantum f n 1 0 = (n.log2 : Int) - ((f.p : Int) - 1) := by
  have := hf.2.1
  unfold FP.Core.quantum
  rw [f_lead hn]; omega
theorem f_near1 (m : Nat) : FP.Core.nearest m 1 = m := by
  unfold FP.Core.nearest
  rw [Nat.mod_one, if_pos (by decide), Nat.div_one]
theorem f_near_le {n D M : Nat} (hD : 0 < D) (h : n ≤ M * D) : FP.Core.nearest n D ≤ M := by
  have h1 : n / D ≤ M := Nat.div_le_of_le_mul (by rw [Nat.mul_comm]; exact h)
  unfold FP.Core.nearest
  by_cases e : n / D = M
  · have h2 : n % D = 0 := by
      have := Nat.div_add_mod n D
      rw [e, Nat.mul_comm] at this
      omega
    rw [h2, if_pos (by omega), e]; exact Nat.le_refl _
  · split
    · exact h1
    · split <;> omega
theorem f_near_ge {n D M : Nat} (hD : 0 < D) (h : M * D ≤ n) : M ≤ FP.Core.nearest n D := by
  have h1 : M ≤ n / D := (Nat.le_div_iff_mul_le hD).mpr h
  unfold FP.Core.nearest
  split
  · exact h1
  · split <;> omega
theorem f_log {n a : Nat} (h1 : 2 ^ a ≤ n) (h2 : n < 2 ^ (a + 1)) : n.log2 = a := by
  have hn : n ≠ 0 := Nat.ne_of_gt (Nat.lt_of_lt_of_le (Nat.two_pow_pos a) h1)
  have a1 := (Nat.le_log2 hn).mpr h1
  have a2 := (Nat.log2_lt hn).mpr h2
  omega
/-- a datum of a format, written and read -/
theorem f_rw {f : FP.Core.Fmt} (hf : fOk f) {s : Bool} {c : Nat} {q : Int} (h1 : f.tails ≤ c) (h2 : c < 2 * f.tails) (h3 : f.qmin ≤ q) (h4 : q ≤ 64) :
    FP.Core.encode f (.fin s c q) < 2 * f.exps * f.tails ∧ FP.Core.decode f (FP.Core.encode f (.fin s c q)) = .fin s c q := by
  have hE : (q - f.qmin).toNat + 1 < f.exps - 1 := by have := hf.2.2.2.1; omega
  have hT : c - f.tails < f.tails := by omega
  have e0 : FP.Core.encode f (.fin s c q) = (s.toNat * f.exps + ((q - f.qmin).toNat + 1)) * f.tails + (c - f.tails) := by
    show (if c < f.tails then _ else FP.Core.assemble f s ((q - f.qmin).toNat + 1) (c - f.tails)) = _
    rw [if_neg (by omega)]; rfl
  have hs : s.toNat ≤ 1 := by cases s <;> decide
  have hT0 : 0 < f.tails := by omega
  have hX0 : 0 < f.exps := by omega
  rw [e0]
  generalize hE' : (q - f.qmin).toNat + 1 = E at *
  have d1 : ((s.toNat * f.exps + E) * f.tails + (c - f.tails)) / f.tails = s.toNat * f.exps + E := by
    rw [Nat.add_comm, Nat.add_mul_div_right _ _ hT0, Nat.div_eq_of_lt hT, Nat.zero_add]
  have d2 : ((s.toNat * f.exps + E) * f.tails + (c - f.tails)) % f.tails = c - f.tails := by
    rw [Nat.add_comm, Nat.add_mul_mod_self_right, Nat.mod_eq_of_lt hT]
  have d3 : (s.toNat * f.exps + E) % f.exps = E := by
    rw [Nat.add_comm, Nat.add_mul_mod_self_right, Nat.mod_eq_of_lt (by omega)]
  have d4 : (s.toNat * f.exps + E) / f.exps = s.toNat := by
    rw [Nat.add_comm, Nat.add_mul_div_right _ _ hX0, Nat.div_eq_of_lt (by omega), Nat.zero_add]
  constructor
  · have a1 : s.toNat * f.exps + E + 1 ≤ 2 * f.exps := by
      have := Nat.mul_le_mul_right f.exps hs
      omega
    have a2 := Nat.mul_le_mul_right f.tails a1
    rw [Nat.succ_mul] at a2
    omega
  · unfold FP.Core.decode FP.Core.fieldE FP.Core.fieldT FP.Core.fieldS
    rw [d1, d2, d3, d4, if_neg (by omega), if_neg (by omega)]
    have x1 : (s.toNat % 2 == 1) = s := by cases s <;> rfl
    have x2 : f.tails + (c - f.tails) = c := by omega
    have x3 : f.qmin + ((E : Int) - 1) = q := by omega
    rw [x1, x2, x3]
/-- a number rounded, written and read -/
theorem f_rt {f : FP.Core.Fmt} (hf : fOk f) {s : Bool} {n : Nat} (hn : 0 < n) (h63 : n < 2 ^ 64) : ∃ (c : Nat) (q : Int), FP.Core.roundRatio f s n 1 0 = .fin s c q ∧ f.tails ≤ c ∧ c < 2 * f.tails ∧ f.qmin ≤ q ∧ q ≤ 64 ∧
    (n < 2 ^ f.p → q ≤ 0 ∧ c = n * 2 ^ (-q).toNat) ∧ (∀ d : Nat, 2 ^ (f.p - 1 + d) ≤ n → n < 2 ^ (f.p + d) → 0 ≤ q ∧ c * 2 ^ q.toNat = FP.Core.nearest n (2 ^ d) * 2 ^ d) := by
  have hp := hf.1
  have hqm := hf.2.1
  have h2t := hf.2.2.2.2
  have hlo := Nat.log2_self_le (Nat.ne_of_gt hn)
  have hhi : n < 2 ^ (n.log2 + 1) := Nat.lt_log2_self
  have hL : n.log2 < 64 := (Nat.log2_lt (Nat.ne_of_gt hn)).mpr h63
  have ht : f.tails = 2 ^ (f.p - 1) := rfl
  unfold FP.Core.roundRatio FP.Core.roundAt
  rw [if_neg (Nat.ne_of_gt hn), f_quant hf hn]
  by_cases hc : n.log2 + 1 ≤ f.p
  · have e1 : (0 - ((n.log2 : Int) - ((f.p : Int) - 1))).toNat = f.p - 1 - n.log2 := by omega
    have e2 : ((n.log2 : Int) - ((f.p : Int) - 1) - 0).toNat = 0 := by omega
    have u1 : FP.Core.unitsNum n 0 ((n.log2 : Int) - ((f.p : Int) - 1)) = n * 2 ^ (f.p - 1 - n.log2) := by unfold FP.Core.unitsNum; rw [e1]
    have u2 : FP.Core.unitsDen 1 0 ((n.log2 : Int) - ((f.p : Int) - 1)) = 1 := by unfold FP.Core.unitsDen; rw [e2]
    rw [u1, u2, f_near1]
    have b1 : n * 2 ^ (f.p - 1 - n.log2) < 2 ^ f.p := by
      have := Nat.mul_lt_mul_of_lt_of_le hhi (Nat.le_refl (2 ^ (f.p - 1 - n.log2))) (Nat.two_pow_pos _)
      rw [← Nat.pow_add, (by omega : n.log2 + 1 + (f.p - 1 - n.log2) = f.p)] at this
      exact this
    have b2 : f.tails ≤ n * 2 ^ (f.p - 1 - n.log2) := by
      have := Nat.mul_le_mul_right (2 ^ (f.p - 1 - n.log2)) hlo
      rw [← Nat.pow_add, (by omega : n.log2 + (f.p - 1 - n.log2) = f.p - 1)] at this
      exact this
    unfold FP.Core.settle FP.Core.bound
    rw [if_pos b1, if_pos (by have := hf.2.2.1; omega)]
    have e3 : (-((n.log2 : Int) - ((f.p : Int) - 1))).toNat = f.p - 1 - n.log2 := by omega
    refine ⟨_, _, rfl, b2, by omega, by omega, by omega, fun _ => ⟨by omega, by rw [e3]⟩, fun d g1 g2 => ?_⟩
    have g3 : n.log2 = f.p - 1 + d := f_log g1 (by rw [(by omega : f.p - 1 + d + 1 = f.p + d)]; exact g2)
    have g4 : d = 0 := by omega
    subst g4
    have e4 : ((n.log2 : Int) - ((f.p : Int) - 1)).toNat = 0 := by omega
    refine ⟨by omega, ?_⟩
    rw [e4, (by omega : f.p - 1 - n.log2 = 0), Nat.pow_zero, f_near1, Nat.mul_one]
  · have e1 : (0 - ((n.log2 : Int) - ((f.p : Int) - 1))).toNat = 0 := by omega
    have e2 : ((n.log2 : Int) - ((f.p : Int) - 1) - 0).toNat = n.log2 + 1 - f.p := by omega
    have u1 : FP.Core.unitsNum n 0 ((n.log2 : Int) - ((f.p : Int) - 1)) = n := by unfold FP.Core.unitsNum; rw [e1, Nat.pow_zero, Nat.mul_one]
    have u2 : FP.Core.unitsDen 1 0 ((n.log2 : Int) - ((f.p : Int) - 1)) = 2 ^ (n.log2 + 1 - f.p) := by unfold FP.Core.unitsDen; rw [e2, Nat.one_mul]
    rw [u1, u2]
    have b1 : FP.Core.nearest n (2 ^ (n.log2 + 1 - f.p)) ≤ 2 ^ f.p := by
      refine f_near_le (Nat.two_pow_pos _) ?_
      rw [← Nat.pow_add, (by omega : f.p + (n.log2 + 1 - f.p) = n.log2 + 1)]
      exact Nat.le_of_lt hhi
    have b2 : f.tails ≤ FP.Core.nearest n (2 ^ (n.log2 + 1 - f.p)) := by
      refine f_near_ge (Nat.two_pow_pos _) ?_
      rw [ht, ← Nat.pow_add, (by omega : f.p - 1 + (n.log2 + 1 - f.p) = n.log2)]
      exact hlo
    have hbig : ¬ n < 2 ^ f.p := by
      intro hh
      have := (Nat.log2_lt (Nat.ne_of_gt hn)).mpr hh
      omega
    have hd : ∀ d : Nat, 2 ^ (f.p - 1 + d) ≤ n → n < 2 ^ (f.p + d) → n.log2 + 1 - f.p = d := fun d g1 g2 => by
      have g3 : n.log2 = f.p - 1 + d := f_log g1 (by rw [(by omega : f.p - 1 + d + 1 = f.p + d)]; exact g2)
      omega
    have e4 : ((n.log2 : Int) - ((f.p : Int) - 1)).toNat = n.log2 + 1 - f.p := by omega
    have e5 : ((n.log2 : Int) - ((f.p : Int) - 1) + 1).toNat = n.log2 + 1 - f.p + 1 := by omega
    have hqx := hf.2.2.1
    unfold FP.Core.settle FP.Core.bound
    by_cases hc2 : FP.Core.nearest n (2 ^ (n.log2 + 1 - f.p)) < 2 ^ f.p
    · rw [if_pos hc2, if_pos (by omega)]
      refine ⟨_, _, rfl, b2, by omega, by omega, by omega, fun hh => absurd hh hbig, fun d g1 g2 => ⟨by omega, ?_⟩⟩
      rw [e4, hd d g1 g2]
    · rw [if_neg hc2, if_pos (by omega)]
      have hpos : 0 < f.tails := by rw [ht]; exact Nat.two_pow_pos _
      refine ⟨_, _, rfl, Nat.le_refl _, by omega, by omega, by omega, fun hh => absurd hh hbig, fun d g1 g2 => ⟨by omega, ?_⟩⟩
      have e6 : FP.Core.nearest n (2 ^ (n.log2 + 1 - f.p)) = 2 * f.tails := by omega
      rw [e5, hd d g1 g2] at *
      rw [e6, Nat.pow_succ, Nat.mul_comm (2 ^ d) 2, ← Nat.mul_assoc, Nat.mul_comm f.tails 2]
theorem n_pos {u : Int64} {n : Nat} (h : u.toInt = n) : u.toUInt64.toNat = n := by
  have h1 : u.toInt = (u.toBitVec.toNat : Int) ∨ u.toInt = (u.toBitVec.toNat : Int) - 2 ^ 64 := by
    show u.toBitVec.toInt = _ ∨ u.toBitVec.toInt = _
    rw [BitVec.toInt_eq_toNat_cond]
    by_cases hh : 2 * u.toBitVec.toNat < 2 ^ 64
    · rw [if_pos hh]; exact .inl rfl
    · rw [if_neg hh]; exact .inr (by omega)
  have h2 : u.toBitVec.toNat < 2 ^ 64 := u.toBitVec.isLt
  show u.toBitVec.toNat = n
  omega
theorem n_of {x : UInt64} {n : Nat} (h : x.toNat = n) (hn : n < 2 ^ 63) : x.toInt64.toInt = n := by
  show x.toBitVec.toInt = _
  rw [BitVec.toInt_eq_toNat_of_lt]
  · show ((x.toNat : Nat) : Int) = _
    rw [h]
  · show 2 * x.toNat < 2 ^ 64
    omega
theorem n_sh {d : Int32} {k : Nat} (hd : d = nI k) (hk : k < 64) : (d.toInt64.toUInt64 &&& Int64.toUInt64 63).toNat = k := by
  subst hd
  revert k
  decide +kernel
theorem n_sr {u : Int64} {n k : Nat} {d : Int32} (h : u.toInt = n) (hd : d = nI k) (hk : k < 64) (hn : n < 2 ^ 63) : (nSr u d).toInt = ((n / 2 ^ k : Nat) : Int) := by
  unfold nSr
  refine n_of ?_ (Nat.lt_of_le_of_lt (Nat.div_le_self _ _) hn)
  rw [UInt64.toNat_shiftRight, n_sh hd hk, n_pos h, Nat.shiftRight_eq_div_pow, Nat.mod_eq_of_lt hk]
theorem n_sl {u : Int64} {n k : Nat} {d : Int32} (h : u.toInt = n) (hd : d = nI k) (hk : k < 64) (hn : n * 2 ^ k < 2 ^ 63) : (nSl u d).toInt = ((n * 2 ^ k : Nat) : Int) := by
  have hb : ∀ k : Fin 64, ((nI k.1).toInt64 &&& 63).toBitVec.smod 64 = BitVec.ofNat 64 k.1 := by decide +kernel
  have e : (nSl u d).toBitVec = u.toBitVec <<< k := by
    show u.toBitVec <<< ((d.toInt64 &&& 63).toBitVec.smod 64) = _
    rw [hd, hb ⟨k, hk⟩]
    show u.toBitVec <<< (BitVec.ofNat 64 k).toNat = _
    rw [BitVec.toNat_ofNat, Nat.mod_eq_of_lt (by omega)]
  have e2 : (nSl u d).toBitVec.toNat = n * 2 ^ k := by
    rw [e, BitVec.toNat_shiftLeft]
    have : u.toBitVec.toNat = n := n_pos h
    rw [this, Nat.shiftLeft_eq, Nat.mod_eq_of_lt (by omega)]
  show (nSl u d).toBitVec.toInt = _
  rw [BitVec.toInt_eq_toNat_of_lt (by omega), e2]
theorem n_add1 {u : Int64} {n : Nat} (h : u.toInt = n) (hn : n + 1 < 2 ^ 63) : (u + 1).toInt = ((n + 1 : Nat) : Int) := by
  rw [Int64.toInt_add, h]
  show ((n : Int) + 1).bmod (2 ^ 64) = _
  rw [Int.bmod_eq_of_le (by omega) (by omega)]; omega
theorem n_sub {u w : Int64} {n m : Nat} (h : u.toInt = n) (h2 : w.toInt = m) (hm : m ≤ n) (hn : n < 2 ^ 63) : (u - w).toInt = ((n - m : Nat) : Int) := by
  rw [Int64.toInt_sub, h, h2, Int.bmod_eq_of_le (by omega) (by omega)]; omega
theorem n_odd {u : Int64} {n : Nat} (h : u.toInt = n) : (u &&& 1).toInt = ((n % 2 : Nat) : Int) := by
  have e : (u &&& 1).toBitVec.toNat = n % 2 := by
    show (u.toBitVec &&& 1#64).toNat = _
    rw [BitVec.toNat_and]
    have : u.toBitVec.toNat = n := n_pos h
    rw [this]
    exact Nat.and_two_pow_sub_one_eq_mod n 1
  show (u &&& 1).toBitVec.toInt = _
  rw [BitVec.toInt_eq_toNat_of_lt (by omega), e]
theorem n_lt {x y : Int64} {a b : Nat} (hx : x.toInt = a) (hy : y.toInt = b) : lg_cmp x y < 0 ↔ a < b := by
  rw [lg_cmp_lt, Int64.lt_iff_toInt_lt, hx, hy]; omega
theorem n_gt {x y : Int64} {a b : Nat} (hx : x.toInt = a) (hy : y.toInt = b) : 0 < lg_cmp x y ↔ b < a := by
  rw [lg_cmp_gt, Int64.lt_iff_toInt_lt, hx, hy]; omega
theorem n_eq {x y : Int64} {a b : Nat} (hx : x.toInt = a) (hy : y.toInt = b) : lg_cmp x y = 0 ↔ a = b := by
  rw [lg_cmp_eq, ← Int64.toInt_inj, hx, hy]; omega
theorem n_one : (1 : Int64).toInt = ((1 : Nat) : Int) := rfl
theorem n_up {u : Int64} {n k : Nat} {d : Int32} (h : u.toInt = n) (hd : d = nI (k + 1)) (hk : k + 1 < 63) (hn : n < 2 ^ 63) : (nUp u d).toInt = ((FP.Core.nearest n (2 ^ (k + 1)) : Nat) : Int) := by
  have h1 := n_sr h hd (by omega) hn
  have hm : n / 2 ^ (k + 1) * 2 ^ (k + 1) ≤ n := Nat.div_mul_le_self n _
  have h2 := n_sl h1 hd (by omega) (Nat.lt_of_le_of_lt hm hn)
  have h3 := n_sub h h2 hm hn
  have hmod : n - n / 2 ^ (k + 1) * 2 ^ (k + 1) = n % 2 ^ (k + 1) := by
    have := Nat.div_add_mod n (2 ^ (k + 1)); rw [Nat.mul_comm] at this; omega
  rw [hmod] at h3
  have hpk : 2 ^ k < 2 ^ 63 := Nat.pow_lt_pow_right (by decide) (by omega)
  have hd1 : d - 1 = nI k := by
    have : ∀ k : Fin 62, nI (k.1 + 1) - 1 = nI k.1 := by decide +kernel
    rw [hd]; exact this ⟨k, by omega⟩
  have h4 : (nSl 1 (d - 1)).toInt = ((1 * 2 ^ k : Nat) : Int) := n_sl n_one hd1 (by omega) (by omega)
  rw [Nat.one_mul] at h4
  have h5 := n_odd h1
  have hq : n / 2 ^ (k + 1) + 1 < 2 ^ 63 := by
    have : n / 2 ^ (k + 1) ≤ n / 2 := Nat.div_le_div_left (by rw [Nat.pow_succ]; have := Nat.two_pow_pos k; omega) (by decide)
    omega
  have h6 := n_add1 h1 hq
  have hp2 : 2 ^ (k + 1) = 2 * 2 ^ k := by rw [Nat.pow_succ, Nat.mul_comm]
  unfold nUp FP.Core.nearest
  generalize n % 2 ^ (k + 1) = r at *
  generalize n / 2 ^ (k + 1) = q at *
  by_cases c1 : 2 ^ k < r
  · rw [if_pos ((n_gt h3 h4).mpr c1), if_neg (show ¬ 2 * r < 2 ^ (k + 1) by omega), if_pos (show 2 ^ (k + 1) < 2 * r by omega)]; exact h6
  · rw [if_neg (fun hh => c1 ((n_gt h3 h4).mp hh))]
    by_cases c2 : r = 2 ^ k
    · rw [if_pos ((n_eq h3 h4).mpr c2), if_neg (show ¬ 2 * r < 2 ^ (k + 1) by omega), if_neg (show ¬ 2 ^ (k + 1) < 2 * r by omega)]
      by_cases c3 : q % 2 = 1
      · rw [if_pos ((n_eq h5 n_one).mpr c3), c3]; exact h6
      · rw [if_neg (fun hh => c3 ((n_eq h5 n_one).mp hh)), (by omega : q % 2 = 0)]; exact h1
    · rw [if_neg (fun hh => c2 ((n_eq h3 h4).mp hh)), if_pos (show 2 * r < 2 ^ (k + 1) by omega)]; exact h1
theorem n_ofI {i : Int} (h1 : -2 ^ 63 ≤ i) (h2 : i < 2 ^ 63) : (Int64.ofInt i).toInt = i := by
  rw [Int64.toInt_ofInt]
  show i.bmod (2 ^ 64) = _
  rw [Int.bmod_eq_of_le (by omega) (by omega)]
theorem n_neg {u : Int64} {n : Nat} (h : u.toInt = n) (hn : n < 2 ^ 63) : (-u).toInt = -(n : Int) := by
  rw [Int64.toInt_neg, h, Int.bmod_eq_of_le (by omega) (by omega)]
theorem n_abs {v : Int64} (h : ¬ v = -9223372036854775808) : (nAb v).toInt = ((v.toInt.natAbs : Nat) : Int) ∧ v.toInt.natAbs < 2 ^ 63 := by
  have h1 := v.toInt_lt
  have h2 := v.le_toInt
  have h3 : v.toInt ≠ -2 ^ 63 := fun hh => h (Int64.toInt_inj.mp (hh.trans (by decide)))
  refine ⟨?_, by omega⟩
  unfold nAb
  by_cases c : 0 ≤ lg_cmp v 0
  · rw [if_pos c]
    have c' := (lg_cmp_ge v 0).mp c
    rw [Int64.le_iff_toInt_le, show (0 : Int64).toInt = 0 from rfl] at c'
    omega
  · rw [if_neg c]
    have c' : v.toInt < 0 := by
      refine Int.not_le.mp fun hh => c ((lg_cmp_ge v 0).mpr ?_)
      rw [Int64.le_iff_toInt_le, show (0 : Int64).toInt = 0 from rfl]; exact hh
    rw [Int64.toInt_neg, Int.bmod_eq_of_le (by omega) (by omega)]; omega
theorem nDr_k {d : Int32} (h0 : ¬ d < 0) (h1 : d ≤ 40) : ∃ k, k ≤ 40 ∧ d = nI k := by
  have a : 0 ≤ d.toInt := by
    refine Int.not_lt.mp fun hh => h0 ?_
    rw [Int32.lt_iff_toInt_lt]; exact hh
  have b : d.toInt ≤ 40 := by
    rw [Int32.le_iff_toInt_le] at h1; exact h1
  refine ⟨d.toInt.toNat, by omega, Int32.toInt_inj.mp ?_⟩
  have : ∀ k : Fin 41, (nI k.1).toInt = k.1 := by decide +kernel
  rw [this ⟨d.toInt.toNat, by omega⟩]
  show d.toInt = ((d.toInt.toNat : Nat) : Int)
  omega
theorem n_zero {b d : Int32} (hd : nDr (nAb 0) b d) (hb : b = 24 ∨ b = 53) : nRz 0 (nAb 0) d = 0 := by
  obtain ⟨k, hk, hkd⟩ := nDr_k hd.1 hd.2.1
  have h0 : nAb 0 = 0 := by decide
  rcases hd.2.2.2 with e | e
  · rw [e]; rfl
  · exfalso
    apply e
    rw [h0]
    have hh : ∀ k : Fin 41, lg_cmp (nSr 0 (nI k.1 + (-1))) (nSl 1 24) < 0 ∧ lg_cmp (nSr 0 (nI k.1 + (-1))) (nSl 1 53) < 0 := by decide +kernel
    rw [hkd]
    rcases hb with rfl | rfl
    · exact (hh ⟨k, by omega⟩).1
    · exact (hh ⟨k, by omega⟩).2
/-- the rounding in longs is the format's own, there and back -/
theorem n_round {f : FP.Core.Fmt} (hf : fOk f) {b : Int32} (hb : (nSl 1 b).toInt = ((2 ^ f.p : Nat) : Int)) {v : Int64} (hv : ¬ v = -9223372036854775808) (hv0 : ¬ v.toInt = 0) {d : Int32} (hd : nDr (nAb v) b d) :
    FP.Core.encode f (FP.Core.round f (FP.Core.ofInt v.toInt)) < 2 * f.exps * f.tails ∧ nRz v (nAb v) d = Int64.ofInt (FP.Core.toInt (-2 ^ 63) (2 ^ 63 - 1) (FP.Core.decode f (FP.Core.encode f (FP.Core.round f (FP.Core.ofInt v.toInt))))) := by
  obtain ⟨hu, hn⟩ := n_abs hv
  obtain ⟨k, hk, hkd⟩ := nDr_k hd.1 hd.2.1
  have hp := hf.1
  have h1 := (n_lt (n_sr hu hkd (by omega) hn) hb).mp hd.2.2.1
  have hlo := v.le_toInt
  have hhi := v.toInt_lt
  obtain ⟨c0, q0, e0, t1, t2, t3, t4, t5, t6⟩ := f_rt hf (s := decide (v.toInt < 0)) (n := v.toInt.natAbs) (by omega) (by omega)
  have er : FP.Core.round f (FP.Core.ofInt v.toInt) = .fin (decide (v.toInt < 0)) c0 q0 := e0
  obtain ⟨w1, w2⟩ := f_rw hf (s := decide (v.toInt < 0)) t1 t2 t3 t4
  rw [er]
  refine ⟨w1, ?_⟩
  rw [w2]
  show _ = Int64.ofInt (max (-2 ^ 63) (min (2 ^ 63 - 1) (FP.Core.truncate (decide (v.toInt < 0)) c0 q0)))
  unfold nRz
  match k, hk, hkd, h1 with
  | 0, _, hkd, h1 =>
    rw [if_pos (by rw [hkd]; rfl)]
    rw [Nat.pow_zero, Nat.div_one] at h1
    obtain ⟨x1, x2⟩ := t5 h1
    have x3 : FP.Core.truncate (decide (v.toInt < 0)) c0 q0 = v.toInt := by
      unfold FP.Core.truncate
      rw [x2, (by omega : q0.toNat = 0), Nat.pow_zero, Nat.mul_one, Nat.mul_div_cancel _ (Nat.two_pow_pos _)]
      unfold FP.Core.signed
      by_cases hh : v.toInt < 0
      · rw [decide_eq_true hh]; show -((v.toInt.natAbs : Nat) : Int) = _; omega
      · rw [decide_eq_false hh]; show ((v.toInt.natAbs : Nat) : Int) = _; omega
    rw [x3, (by omega : max (-2 ^ 63) (min (2 ^ 63 - 1) v.toInt) = v.toInt), Int64.ofInt_toInt]
  | k + 1, hk, hkd, h1 =>
    have hne : ¬ d = 0 := by
      have : ∀ k : Fin 40, ¬ nI (k.1 + 1) = 0 := by decide +kernel
      rw [hkd]; exact this ⟨k, by omega⟩
    have hd1 : d + (-1) = nI k := by
      have : ∀ k : Fin 40, nI (k.1 + 1) + (-1) = nI k.1 := by decide +kernel
      rw [hkd]; exact this ⟨k, by omega⟩
    have h2 : ¬ v.toInt.natAbs / 2 ^ k < 2 ^ f.p := fun hh => (hd.2.2.2.resolve_left hne) ((n_lt (n_sr hu hd1 (by omega) hn) hb).mpr hh)
    have g1 : v.toInt.natAbs < 2 ^ (f.p + (k + 1)) := by
      rw [Nat.pow_add]
      exact (Nat.div_lt_iff_lt_mul (Nat.two_pow_pos _)).mp h1
    have g2 : 2 ^ (f.p - 1 + (k + 1)) ≤ v.toInt.natAbs := by
      have e : f.p - 1 + (k + 1) = f.p + k := by omega
      rw [e, Nat.pow_add]
      exact (Nat.le_div_iff_mul_le (Nat.two_pow_pos _)).mp (Nat.not_lt.mp h2)
    obtain ⟨x1, x2⟩ := t6 (k + 1) g2 g1
    have x3 : FP.Core.truncate (decide (v.toInt < 0)) c0 q0 = FP.Core.signed (decide (v.toInt < 0)) (FP.Core.nearest v.toInt.natAbs (2 ^ (k + 1)) * 2 ^ (k + 1)) := by
      unfold FP.Core.truncate
      rw [(by omega : (-q0).toNat = 0), Nat.pow_zero, Nat.div_one, x2]
    rw [if_neg hne, x3]
    clear x3 x2 t5 t6 e0 er w1 w2 t1 t2
    have hup := n_up hu hkd (by omega) hn
    have h63 : (63 : Int32) - d = nI (62 - k) := by
      have : ∀ k : Fin 40, (63 : Int32) - nI (k.1 + 1) = nI (62 - k.1) := by decide +kernel
      rw [hkd]; exact this ⟨k, by omega⟩
    have hpk : 2 ^ (62 - k) < 2 ^ 63 := Nat.pow_lt_pow_right (by decide) (by omega)
    have hb63 : (nSl 1 (63 - d)).toInt = ((1 * 2 ^ (62 - k) : Nat) : Int) := n_sl n_one h63 (by omega) (by omega)
    rw [Nat.one_mul] at hb63
    have hmul : 2 ^ (62 - k) * 2 ^ (k + 1) = 2 ^ 63 := (Nat.pow_add 2 (62 - k) (k + 1)).symm.trans (congrArg (fun z => 2 ^ z) (show 62 - k + (k + 1) = 63 by omega))
    generalize hc : FP.Core.nearest v.toInt.natAbs (2 ^ (k + 1)) = c at *
    have hs : (0 ≤ lg_cmp v 0) ↔ ¬ v.toInt < 0 := by
      rw [lg_cmp_ge, Int64.le_iff_toInt_le, show (0 : Int64).toInt = 0 from rfl]; omega
    by_cases c1 : c < 2 ^ (62 - k)
    · rw [if_pos ((n_lt hup hb63).mpr c1)]
      have hlt : c * 2 ^ (k + 1) < 2 ^ 63 := Nat.lt_of_lt_of_eq (Nat.mul_lt_mul_of_lt_of_le c1 (Nat.le_refl _) (Nat.two_pow_pos _)) hmul
      have hsl := n_sl hup hkd (by omega) hlt
      generalize c * 2 ^ (k + 1) = w at *
      by_cases c2 : v.toInt < 0
      · rw [if_neg (fun hh => (hs.mp hh) c2)]
        refine Int64.toInt_inj.mp ?_
        rw [n_neg hsl hlt, decide_eq_true c2]
        show _ = (Int64.ofInt (max (-2 ^ 63) (min (2 ^ 63 - 1) (-(w : Int))))).toInt
        rw [(by omega : max (-2 ^ 63) (min (2 ^ 63 - 1) (-(w : Int))) = -(w : Int)), n_ofI (by omega) (by omega)]
      · rw [if_pos (hs.mpr c2)]
        refine Int64.toInt_inj.mp ?_
        rw [hsl, decide_eq_false c2]
        show _ = (Int64.ofInt (max (-2 ^ 63) (min (2 ^ 63 - 1) (w : Int)))).toInt
        rw [(by omega : max (-2 ^ 63) (min (2 ^ 63 - 1) (w : Int)) = (w : Int)), n_ofI (by omega) (by omega)]
    · rw [if_neg (fun hh => c1 ((n_lt hup hb63).mp hh))]
      have hge : 2 ^ 63 ≤ c * 2 ^ (k + 1) := Nat.le_trans (Nat.le_of_eq hmul.symm) (Nat.mul_le_mul_right _ (Nat.not_lt.mp c1))
      generalize c * 2 ^ (k + 1) = w at *
      by_cases c2 : v.toInt < 0
      · rw [if_neg (fun hh => (hs.mp hh) c2), decide_eq_true c2]
        show _ = Int64.ofInt (max (-2 ^ 63) (min (2 ^ 63 - 1) (-(w : Int))))
        rw [(by omega : max (-2 ^ 63) (min (2 ^ 63 - 1) (-(w : Int))) = -2 ^ 63)]
        rfl
      · rw [if_pos (hs.mpr c2), decide_eq_false c2]
        show _ = Int64.ofInt (max (-2 ^ 63) (min (2 ^ 63 - 1) (w : Int)))
        rw [(by omega : max (-2 ^ 63) (min (2 ^ 63 - 1) (w : Int)) = 2 ^ 63 - 1)]
        rfl
theorem rNr_holds : rNr := by
  constructor
  · intro v r h
    rcases h with ⟨h, rfl⟩ | ⟨h, d, hd, rfl⟩
    · rw [(lg_cmp_eq _ _).mp h]; decide +kernel
    · by_cases h0 : v.toInt = 0
      · obtain rfl : v = 0 := Int64.toInt_inj.mp h0
        have e : nRz 0 (nAb 0) d = 0 := n_zero hd (.inl rfl)
        rw [e]; decide +kernel
      · obtain ⟨a1, a2⟩ := n_round f_32 (b := 24) (by decide) (fun hh => h ((lg_cmp_eq _ _).mpr hh)) h0 hd
        rw [a2]
        show _ = Int64.ofInt (FP.Core.toInt (-2 ^ 63) (2 ^ 63 - 1) (FP.Core.decode FP.Core.b32 (UInt32.ofNat (FP.Core.encode FP.Core.b32 (FP.Core.round FP.Core.b32 (FP.Core.ofInt v.toInt)))).toNat))
        have a3 : FP.Core.encode FP.Core.b32 (FP.Core.round FP.Core.b32 (FP.Core.ofInt v.toInt)) < 2 ^ 32 := Nat.lt_of_lt_of_eq a1 (by decide)
        rw [UInt32.toNat_ofNat_of_lt' (by simpa using a3)]
  · intro v r h
    rcases h with ⟨h, rfl⟩ | ⟨h, d, hd, rfl⟩
    · rw [(lg_cmp_eq _ _).mp h]; decide +kernel
    · by_cases h0 : v.toInt = 0
      · obtain rfl : v = 0 := Int64.toInt_inj.mp h0
        have e : nRz 0 (nAb 0) d = 0 := n_zero hd (.inr rfl)
        rw [e]; decide +kernel
      · obtain ⟨a1, a2⟩ := n_round f_64 (b := 53) (by decide) (fun hh => h ((lg_cmp_eq _ _).mpr hh)) h0 hd
        rw [a2]
        show _ = Int64.ofInt (FP.Core.toInt (-2 ^ 63) (2 ^ 63 - 1) (FP.Core.decode FP.Core.b64 (UInt64.ofNat (FP.Core.encode FP.Core.b64 (FP.Core.round FP.Core.b64 (FP.Core.ofInt v.toInt)))).toNat))
        have a3 : FP.Core.encode FP.Core.b64 (FP.Core.round FP.Core.b64 (FP.Core.ofInt v.toInt)) < 2 ^ 64 := Nat.lt_of_lt_of_eq a1 (by decide)
        rw [UInt64.toNat_ofNat_of_lt' (by simpa using a3)]
end Near

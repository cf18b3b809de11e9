/-! the quotient of two whole numbers from 0 to 1 -/
theorem fp_i2d {p : Nat} (h : p < 2 ^ 31) : FP.Core.val64 (FP.i2d (nI p)) = FP.Core.roundRatio FP.Core.b64 false p 1 0 := by
  show FP.Core.val64 (FP.Core.i2d (nI p)) = _
  rw [FP.Core.val64_i2d, nI_toInt h]
  show FP.Core.roundRatio FP.Core.b64 (decide ((p : Int) < 0)) (p : Int).natAbs 1 0 = _
  rw [decide_eq_false (by omega), Int.natAbs_natCast]
theorem fp_qmin : FP.Core.b64.qmin = -1074 := by decide
theorem fp_qmax : FP.Core.b64.qmax = 971 := by decide
theorem fp_tails : FP.Core.b64.tails = 2 ^ 52 := by decide
theorem fp_p : FP.Core.b64.p = 53 := rfl
theorem fp_int {p : Nat} (h0 : 0 < p) (h : p < 4096) : ∃ k : Nat, k ≤ 52 ∧ FP.Core.roundRatio FP.Core.b64 false p 1 0 = .fin false (p * 2 ^ k) (-(k : Int)) := by
  have h1 : 2 ^ p.log2 ≤ p := Nat.log2_self_le (by omega)
  have h2 : p < 2 ^ (p.log2 + 1) := Nat.lt_log2_self
  have hl : p.log2 < 12 := by
    by_cases c : p.log2 < 12
    · exact c
    · have := Nat.pow_le_pow_right (n := 2) (by decide) (show 12 ≤ p.log2 by omega)
      omega
  generalize p.log2 = l at h1 h2 hl
  refine ⟨52 - l, by omega, FP.Core.roundRatio_exact FP.Core.good_b64 (by decide) ⟨?_, ?_, ?_, .inr ?_⟩ ?_⟩
  · rw [fp_p]
    calc p * 2 ^ (52 - l) < 2 ^ (l + 1) * 2 ^ (52 - l) := Nat.mul_lt_mul_of_pos_right h2 (Nat.two_pow_pos _)
      _ = 2 ^ 53 := by rw [← Nat.pow_add]; congr 1; omega
  · rw [fp_qmin]; omega
  · rw [fp_qmax]; omega
  · rw [fp_tails]
    calc 2 ^ 52 = 2 ^ l * 2 ^ (52 - l) := by rw [← Nat.pow_add]; congr 1; omega
      _ ≤ p * 2 ^ (52 - l) := Nat.mul_le_mul_right _ h1
  · rw [show ((0 : Int) - -((52 - l : Nat) : Int)).toNat = 52 - l by omega, show (-((52 - l : Nat) : Int) - 0).toNat = 0 by omega, Nat.mul_one, Nat.mul_one]
theorem fp_div {p r : Nat} (hp : p < 4096) (h0 : 0 < r) (hr : r < 4096) : FP.Core.val64 (FP.ddiv (FP.i2d (nI p)) (FP.i2d (nI r))) = FP.Core.roundRatio FP.Core.b64 false p r 0 := by
  show FP.Core.val64 (FP.Core.ddiv (FP.i2d (nI p)) (FP.i2d (nI r))) = _
  rw [FP.Core.val64_ddiv, fp_i2d (by omega), fp_i2d (by omega)]
  obtain ⟨l, hl, el⟩ := fp_int h0 hr
  rw [el]
  have pr : 0 < r * 2 ^ l := Nat.mul_pos h0 (Nat.two_pow_pos _)
  by_cases z : p = 0
  · subst z
    have z1 : ∀ (B : Nat) (e : Int), FP.Core.roundRatio FP.Core.b64 false 0 B e = .fin false 0 FP.Core.b64.qmin := fun B e => by
      unfold FP.Core.roundRatio; rw [if_pos rfl]
    rw [z1, z1]
    unfold FP.Core.quotient
    simp only []
    rw [if_neg (by omega)]
    exact z1 _ _
  · obtain ⟨k, hk, ek⟩ := fp_int (p := p) (by omega) hp
    rw [ek]
    unfold FP.Core.quotient
    simp only []
    rw [if_neg (by omega)]
    show FP.Core.roundRatio FP.Core.b64 false (p * 2 ^ k) (r * 2 ^ l) (-(k : Int) - -(l : Int)) = _
    refine FP.Core.roundRatio_congr pr h0 ?_
    have e : k + (-(k : Int) - -(l : Int) - 0).toNat = l + (0 - (-(k : Int) - -(l : Int))).toNat := by omega
    generalize (-(k : Int) - -(l : Int) - 0).toNat = a at e
    generalize (0 - (-(k : Int) - -(l : Int))).toNat = b at e
    calc p * 2 ^ k * r * 2 ^ a = p * r * (2 ^ k * 2 ^ a) := by ac_rfl
      _ = p * r * (2 ^ l * 2 ^ b) := by rw [← Nat.pow_add, ← Nat.pow_add, e]
      _ = p * (r * 2 ^ l) * 2 ^ b := by ac_rfl
theorem fp_in {p r : Nat} (h1 : 0 < p) (hp : p ≤ r) (hr : r < 4096) : ∃ (c : Nat) (q : Int), FP.Core.roundRatio FP.Core.b64 false p r 0 = .fin false c q ∧ 0 < c ∧ q ≤ -52 ∧ c ≤ 2 ^ 52 * 2 ^ (-52 - q).toNat := by
  have h0 : 0 < r := by omega
  by_cases e : p = r
  · subst e
    refine ⟨2 ^ 52, -52, FP.Core.roundRatio_exact FP.Core.good_b64 h0 ⟨by rw [fp_p]; decide, by rw [fp_qmin]; decide, by rw [fp_qmax]; decide, .inr (by rw [fp_tails]; exact Nat.le_refl _)⟩ ?_, Nat.two_pow_pos _, by decide, by decide⟩
    rw [show ((0 : Int) - -52).toNat = 52 by decide, show ((-52 : Int) - 0).toNat = 0 by decide, Nat.pow_zero, Nat.mul_one, Nat.mul_comm]
  · have lt : p < r := by omega
    have b0 : FP.Core.Below p r 0 := by
      show p * 2 ^ (0 : Nat) < r * 2 ^ (0 : Nat)
      omega
    have b12 : ¬ FP.Core.Below p r (-12) := by
      show ¬ p * 2 ^ (12 : Nat) < r * 2 ^ (0 : Nat)
      omega
    have ld := FP.Core.lt_of_below (FP.Core.leading_spec h1 h0).1 b0
    have q53 : FP.Core.quantum FP.Core.b64 p r 0 ≤ -53 := by
      unfold FP.Core.quantum
      rw [fp_qmin, fp_p]
      omega
    have qmn : -1074 ≤ FP.Core.quantum FP.Core.b64 p r 0 := by
      have := FP.Core.quantum_ge FP.Core.b64 p r 0
      rw [fp_qmin] at this
      exact this
    have nle := FP.Core.nearest_units_le (f := FP.Core.b64) h1 h0 0
    have nge : 1 ≤ FP.Core.nearest (FP.Core.unitsNum p 0 (FP.Core.quantum FP.Core.b64 p r 0)) (FP.Core.unitsDen r 0 (FP.Core.quantum FP.Core.b64 p r 0)) := by
      refine FP.Core.nearest_ge (FP.Core.unitsDen_pos h0 ..) ?_
      have u := FP.Core.units_below p r 0 (FP.Core.quantum FP.Core.b64 p r 0) 0
      rw [Nat.pow_zero] at u
      refine Nat.le_of_not_lt (fun c => b12 (FP.Core.below_mono ?_ (u.mp c)))
      omega
    unfold FP.Core.roundRatio
    rw [if_neg (by omega)]
    unfold FP.Core.roundAt
    generalize FP.Core.nearest (FP.Core.unitsNum p 0 (FP.Core.quantum FP.Core.b64 p r 0)) (FP.Core.unitsDen r 0 (FP.Core.quantum FP.Core.b64 p r 0)) = n at nle nge ⊢
    generalize FP.Core.quantum FP.Core.b64 p r 0 = q at q53 qmn ⊢
    unfold FP.Core.settle FP.Core.bound
    rw [fp_qmax, fp_tails]
    rw [fp_p] at nle ⊢
    by_cases c : n < 2 ^ 53
    · rw [if_pos c, if_pos (by omega)]
      refine ⟨n, q, rfl, by omega, by omega, ?_⟩
      have t : 2 ^ 1 ≤ 2 ^ (-52 - q).toNat := Nat.pow_le_pow_right (by decide) (by omega)
      calc n ≤ 2 ^ 52 * 2 ^ 1 := by omega
        _ ≤ 2 ^ 52 * 2 ^ (-52 - q).toNat := Nat.mul_le_mul_left _ t
    · rw [if_neg c, if_pos (by omega)]
      refine ⟨2 ^ 52, q + 1, rfl, Nat.two_pow_pos _, by omega, Nat.le_mul_of_pos_right _ (Nat.two_pow_pos _)⟩
theorem fp_notnan {x : UInt64} (h : FP.Core.val64 x ≠ .nan) : vf_n64 x := by
  have b : ¬ 9218868437227405312 < x.toNat % 2 ^ 63 := fun c => h ((FP.Core.dIsNaN_iff x).mp ((FP.Core.isNaN_bits x).mpr c))
  have e : x.toNat &&& 9223372036854775807 = x.toNat % 2 ^ 63 := Nat.and_two_pow_sub_one_eq_mod x.toNat 63
  show x &&& 0x7fffffffffffffff ≤ 0x7ff0000000000000
  rw [UInt64.le_iff_toNat_le, UInt64.toNat_and]
  show x.toNat &&& 9223372036854775807 ≤ 9218868437227405312
  rw [e]
  omega
theorem fp_one {p r : Nat} (hp : p ≤ r) (h0 : 0 < r) (hr : r < 4096) : ¬ (0 : Int32) < Op.cmpValue (FP.dcmp (FP.ddiv (FP.i2d (nI p)) (FP.i2d (nI r))) FP.dconst1) CmpOp.g := by
  have v := fp_div (p := p) (by omega) h0 hr
  have o : ∃ d : FP.Core.Datum, FP.Core.val64 (FP.ddiv (FP.i2d (nI p)) (FP.i2d (nI r))) = d ∧ FP.dcmp (FP.ddiv (FP.i2d (nI p)) (FP.i2d (nI r))) FP.dconst1 = FP.Core.order d (.fin false (2 ^ 52) (-52)) :=
    ⟨_, rfl, by rw [← FP.Core.val64_dconst1]; rfl⟩
  obtain ⟨d, d1, d2⟩ := o
  rw [d2, ← d1, v]
  by_cases z : p = 0
  · subst z
    rw [show FP.Core.roundRatio FP.Core.b64 false 0 r 0 = .fin false 0 FP.Core.b64.qmin by unfold FP.Core.roundRatio; rw [if_pos rfl]]
    decide +kernel
  · obtain ⟨c, q, e, c0, q1, c1⟩ := fp_in (p := p) (by omega) hp hr
    rw [e]
    unfold FP.Core.order
    simp only []
    rw [show min q (-52) = q by omega]
    unfold FP.Core.inUnits
    rw [Int.sub_self]
    have le : FP.Core.signed false (c * 2 ^ (0 : Int).toNat) ≤ FP.Core.signed false (2 ^ 52 * 2 ^ (-52 - q).toNat) := by
      show ((c * 2 ^ 0 : Nat) : Int) ≤ ((2 ^ 52 * 2 ^ (-52 - q).toNat : Nat) : Int)
      omega
    generalize FP.Core.signed false (c * 2 ^ (0 : Int).toNat) = a at le
    generalize FP.Core.signed false (2 ^ 52 * 2 ^ (-52 - q).toNat) = b at le
    rw [FP.Core.compare_ite]
    by_cases l : a < b
    · rw [if_pos l]; decide
    · rw [if_neg l, if_pos (by omega)]; decide
theorem fp_zero {p r : Nat} (hp : p ≤ r) (h0 : 0 < r) (hr : r < 4096) : Op.cmpValue (FP.dcmp (FP.ddiv (FP.i2d (nI p)) (FP.i2d (nI r))) FP.dconst0) CmpOp.l = 0 ↔ p = 0 := by
  have v := fp_div (p := p) (by omega) h0 hr
  have o : ∃ d : FP.Core.Datum, FP.Core.val64 (FP.ddiv (FP.i2d (nI p)) (FP.i2d (nI r))) = d ∧ FP.dcmp (FP.ddiv (FP.i2d (nI p)) (FP.i2d (nI r))) FP.dconst0 = FP.Core.order d (.fin false 0 FP.Core.b64.qmin) :=
    ⟨_, rfl, by rw [← FP.Core.val64_dconst0]; rfl⟩
  obtain ⟨d, d1, d2⟩ := o
  rw [d2, ← d1, v]
  by_cases z : p = 0
  · subst z
    rw [show FP.Core.roundRatio FP.Core.b64 false 0 r 0 = .fin false 0 FP.Core.b64.qmin by unfold FP.Core.roundRatio; rw [if_pos rfl]]
    exact ⟨fun _ => rfl, fun _ => by decide +kernel⟩
  · obtain ⟨c, q, e, c0, q1, c1⟩ := fp_in (p := p) (by omega) hp hr
    rw [e]
    unfold FP.Core.order
    simp only []
    unfold FP.Core.inUnits
    have gt : FP.Core.signed false (0 * 2 ^ (FP.Core.b64.qmin - min q FP.Core.b64.qmin).toNat) < FP.Core.signed false (c * 2 ^ (q - min q FP.Core.b64.qmin).toNat) := by
      show ((0 * 2 ^ (FP.Core.b64.qmin - min q FP.Core.b64.qmin).toNat : Nat) : Int) < ((c * 2 ^ (q - min q FP.Core.b64.qmin).toNat : Nat) : Int)
      have := Nat.mul_pos c0 (Nat.two_pow_pos (q - min q FP.Core.b64.qmin).toNat)
      rw [Nat.zero_mul]
      omega
    generalize FP.Core.signed false (c * 2 ^ (q - min q FP.Core.b64.qmin).toNat) = a at gt
    generalize FP.Core.signed false (0 * 2 ^ (FP.Core.b64.qmin - min q FP.Core.b64.qmin).toNat) = b at gt
    rw [FP.Core.compare_ite, if_neg (by omega), if_neg (by omega)]
    exact ⟨fun c => absurd c (by decide), fun c => absurd c z⟩
theorem fp_nn {p r : Nat} (hp : p ≤ r) (h0 : 0 < r) (hr : r < 4096) : vf_n64 (FP.ddiv (FP.i2d (nI p)) (FP.i2d (nI r))) := by
  refine fp_notnan ?_
  rw [fp_div (by omega) h0 hr]
  by_cases z : p = 0
  · subst z
    rw [show FP.Core.roundRatio FP.Core.b64 false 0 r 0 = .fin false 0 FP.Core.b64.qmin by unfold FP.Core.roundRatio; rw [if_pos rfl]]
    intro c; cases c
  · obtain ⟨c, q, e, -⟩ := fp_in (p := p) (by omega) hp hr
    rw [e]
    intro c; cases c

theorem nan_bits {r : UInt64} (h : isNaN64 r = true) : 9218868437227405312 < r.toNat % 2 ^ 63 := by
  have b := isNaN64_iff.mp h
  have e : r.toNat &&& 9223372036854775807 = r.toNat % 2 ^ 63 := Nat.and_two_pow_sub_one_eq_mod r.toNat 63
  rw [← e]
  exact b
theorem nan_cmp {r : UInt64} (h : isNaN64 r = true) : Op.cmpValue (FP.dcmp r r) CmpOp.l = -1 := by
  have v : FP.Core.val64 r = .nan := (FP.Core.dIsNaN_iff r).mp ((FP.Core.isNaN_bits r).mpr (nan_bits h))
  have e : FP.dcmp r r = none := (FP.Core.dcmp_none r r).mpr (.inl v)
  rw [e]; rfl
theorem alike_eq {r1 r2 v : UInt64} (h1 : alike64 r1 v = true) (h2 : alike64 r2 v = true) (n : isNaN64 r1 = false) : r1 = r2 := by
  have a : r1 = v := by simpa [alike64, n] using h1
  subst a
  have b : r2 = r1 := by simpa [alike64, n] using h2
  exact b.symm
theorem cmp_0 {r : UInt64} (h : Op.cmpValue (FP.dcmp r r) CmpOp.l = 0) : isNaN64 r = false := by
  cases q : isNaN64 r
  · rfl
  · rw [nan_cmp q] at h
    exact absurd h (by decide)
theorem cw_X5_fullness : CwB yX5_fullness cX5_fullness 2 (some .double) 0 := ⟨q_657, q_51, by decide, by decide, by decide +kernel⟩
theorem cw_X6_fullness : CwB yX6_fullness cX6_fullness 3 (some .double) 0 := ⟨q_950, q_57, by decide, by decide, by decide +kernel⟩

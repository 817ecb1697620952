-- the mean: no NaN comes
theorem fq_ok {x y : Int32} (hy : ¬ y = 0) : FP.Core.fIsNaN (FP.fdiv (FP.i2f x) (FP.i2f y)) = false :=
  FP.Core.fdiv_out (FP.Core.FFin.notNaN (FP.Core.i2f_fin x)) (FP.Core.i2f_fin y) (fun h => FP.Core.i2f_ne_zero hy ((FP.Core.zero_bits232 _).mp h))
theorem and_le {a c b : UInt32} (hc : c.toNat = 2 ^ 31 - 1) (hb : b.toNat = 2139095040) (h : ¬ 2139095040 < a.toNat % 2 ^ 31) : a &&& c ≤ b := by
  rw [UInt32.le_iff_toNat_le, UInt32.toNat_and, hc, hb, Nat.and_two_pow_sub_one_eq_mod]
  omega
theorem fq_bits {a : UInt32} (h : FP.Core.fIsNaN a = false) : a &&& 0x7fffffff ≤ 0x7f800000 :=
  and_le (by decide +kernel) (by decide +kernel) (fun z => by
    have := (FP.Core.isNaN_bits32 a).mpr z
    rw [h] at this
    cases this)
theorem fq_0 : FP.Core.fIsNaN FP.fconst0 = false := by
  cases h : FP.Core.fIsNaN FP.fconst0 with
  | false => rfl
  | true =>
    have h1 := (FP.Core.isNaN_bits32 _).mp h
    have e0 : UInt32.toNat FP.fconst0 = 0 := by decide +kernel
    rw [e0] at h1
    omega

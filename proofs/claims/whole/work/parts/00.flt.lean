/-! FLOATS: what divides is no NaN, nor is it one as a double -/
section FLT
variable {fv : UInt32} {dv : UInt64}
theorem an32 (a : UInt32) : (a &&& 0x7fffffff).toNat = a.toNat % 2 ^ 31 := by
  rw [UInt32.toNat_and]
  exact Nat.and_two_pow_sub_one_eq_mod a.toNat 31
theorem an64 (a : UInt64) : (a &&& 0x7fffffffffffffff).toNat = a.toNat % 2 ^ 63 := by
  rw [UInt64.toNat_and]
  exact Nat.and_two_pow_sub_one_eq_mod a.toNat 63
theorem le32 (a : UInt32) : (a &&& 0x7fffffff ≤ 0x7f800000) ↔ a.toNat % 2 ^ 31 ≤ 2139095040 := by
  rw [UInt32.le_iff_toNat_le, an32]
  rfl
theorem le64 (a : UInt64) : (a &&& 0x7fffffffffffffff ≤ 0x7ff0000000000000) ↔ a.toNat % 2 ^ 63 ≤ 9218868437227405312 := by
  rw [UInt64.le_iff_toNat_le, an64]
  rfl
theorem fd_ok {a b : Int32} (hb : ¬ b = 0) : FP.fdiv (FP.i2f a) (FP.i2f b) &&& 0x7fffffff ≤ 0x7f800000 := by
  have h1 := Jvm.FP.Core.i2f_mag a
  obtain ⟨h2, h3⟩ := Jvm.FP.Core.i2f_big (Jvm.FP.Core.int32_ne hb)
  have h4 := Jvm.FP.Core.fdiv_mag (K := 160) (L := 127) h1 h2 h3 (by decide) (by decide)
  rw [le32]
  have h5 : (FP.fdiv (FP.i2f a) (FP.i2f b)).toNat % 2 ^ 31 < (160 + (149 - 23 - 1) - 127 + 3) * 2 ^ 23 := h4
  omega
theorem f2_ok (h : fv &&& 0x7fffffff ≤ 0x7f800000) : FP.f2d fv &&& 0x7fffffffffffffff ≤ 0x7ff0000000000000 := by
  rw [le32] at h
  rw [le64]
  have h1 : Jvm.FP.Core.fIsNaN fv = false := by
    cases hb : Jvm.FP.Core.fIsNaN fv with
    | false => rfl
    | true =>
      have := (Jvm.FP.Core.isNaN_bits32 fv).mp hb
      omega
  have h2 : Jvm.FP.Core.dIsNaN (FP.f2d fv) = false := by
    unfold FP.f2d
    rw [h1, if_neg Bool.false_ne_true]
    exact Jvm.FP.Core.f2d_out h1
  have h3 : ¬ 9218868437227405312 < (FP.f2d fv).toNat % 2 ^ 63 := fun z => by
    have := (Jvm.FP.Core.isNaN_bits _).mpr z
    rw [h2] at this
    cases this
  omega
theorem dcm_self (h : dv &&& 0x7fffffffffffffff ≤ 0x7ff0000000000000) : Op.cmpValue (FP.dcmp dv dv) .l = 0 := by
  rw [le64] at h
  have h1 : FP.dcmp dv dv = some .eq := Jvm.FP.Core.dcmp_self ((Jvm.FP.Core.ne_nan dv).mpr h)
  rw [h1]
  rfl
end FLT

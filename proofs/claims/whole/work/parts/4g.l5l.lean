/-! floats: the quotients here are never NaN -/
theorem u64_a : (0x7fffffffffffffff : UInt64).toNat = 9223372036854775807 := by decide +kernel
theorem u64_b : (0x7ff0000000000000 : UInt64).toNat = 9218868437227405312 := by decide +kernel
theorem u32_a : (0x7fffffff : UInt32).toNat = 2147483647 := by decide +kernel
theorem u32_b : (0x7f800000 : UInt32).toNat = 2139095040 := by decide +kernel
theorem n64_of {r : UInt64} (h2 : ¬ 9218868437227405312 < r.toNat % 2 ^ 63) : vf_n64 r := by
  unfold vf_n64
  rw [UInt64.le_iff_toNat_le, UInt64.toNat_and, u64_a, u64_b]
  have e := Nat.and_two_pow_sub_one_eq_mod r.toNat 63
  have e2 : (2 : Nat) ^ 63 - 1 = 9223372036854775807 := by decide +kernel
  rw [e2] at e
  rw [e]
  exact Nat.not_lt.mp h2
theorem n32_of {r : UInt32} (h2 : ¬ 2139095040 < r.toNat % 2 ^ 31) : vf_n32 r := by
  unfold vf_n32
  rw [UInt32.le_iff_toNat_le, UInt32.toNat_and, u32_a, u32_b]
  have e := Nat.and_two_pow_sub_one_eq_mod r.toNat 31
  have e2 : (2 : Nat) ^ 31 - 1 = 2147483647 := by decide +kernel
  rw [e2] at e
  rw [e]
  exact Nat.not_lt.mp h2
theorem i2d_num (v : Int32) : Jvm.FP.Core.dIsNaN (Jvm.FP.Core.i2d v) = false := by
  cases h : Jvm.FP.Core.dIsNaN (Jvm.FP.Core.i2d v) with
  | false => rfl
  | true =>
    have h1 := (Jvm.FP.Core.isNaN_bits _).mp h
    have h2 := Jvm.FP.Core.i2d_mag v
    generalize (Jvm.FP.Core.i2d v).toNat % 2 ^ 63 = q at h1 h2
    omega
theorem i2f_num (v : Int32) : Jvm.FP.Core.fIsNaN (Jvm.FP.Core.i2f v) = false := by
  cases h : Jvm.FP.Core.fIsNaN (Jvm.FP.Core.i2f v) with
  | false => rfl
  | true =>
    have h1 := (Jvm.FP.Core.isNaN_bits32 _).mp h
    have h2 := Jvm.FP.Core.i2f_mag v
    generalize (Jvm.FP.Core.i2f v).toNat % 2 ^ 31 = q at h1 h2
    omega
theorem nb64 {r : UInt64} (h : Jvm.FP.Core.dIsNaN r = false) : ¬ 9218868437227405312 < r.toNat % 2 ^ 63 := fun q => by
  rw [(Jvm.FP.Core.isNaN_bits r).mpr q] at h; cases h
theorem nb32 {r : UInt32} (h : Jvm.FP.Core.fIsNaN r = false) : ¬ 2139095040 < r.toNat % 2 ^ 31 := fun q => by
  rw [(Jvm.FP.Core.isNaN_bits32 r).mpr q] at h; cases h
theorem n64_dv {a b : Int32} (hb : b ≠ 0) : vf_n64 (Jvm.FP.ddiv (Jvm.FP.i2d a) (Jvm.FP.i2d b)) := by
  rw [Jvm.FP.ddiv_core, Jvm.FP.i2d_core]
  exact n64_of (nb64 (Jvm.FP.Core.ddiv_out (i2d_num a) (Jvm.FP.Core.i2d_fin b) (fun h => Jvm.FP.Core.i2d_ne_zero hb ((Jvm.FP.Core.zero_bits2 _).mp h))))
theorem f_dv {a b : Int32} (hb : b ≠ 0) : Jvm.FP.Core.fIsNaN (Jvm.FP.fdiv (Jvm.FP.i2f a) (Jvm.FP.i2f b)) = false := by
  rw [Jvm.FP.fdiv_core, Jvm.FP.i2f_core]
  exact Jvm.FP.Core.fdiv_out (i2f_num a) (Jvm.FP.Core.i2f_fin b) (fun h => Jvm.FP.Core.i2f_ne_zero hb ((Jvm.FP.Core.zero_bits232 _).mp h))
theorem n32_dv {a b : Int32} (hb : b ≠ 0) : vf_n32 (Jvm.FP.fdiv (Jvm.FP.i2f a) (Jvm.FP.i2f b)) := n32_of (nb32 (f_dv hb))
theorem n64_fd {a b : Int32} (hb : b ≠ 0) : vf_n64 (Jvm.FP.f2d (Jvm.FP.fdiv (Jvm.FP.i2f a) (Jvm.FP.i2f b))) := by
  have h := f_dv (a := a) hb
  rw [Jvm.FP.f2d_core h]
  exact n64_of (nb64 (Jvm.FP.Core.f2d_out h))
theorem l2d_i2d {n : Nat} (h : n < 2 ^ 31) : Jvm.FP.l2d (lN n) = Jvm.FP.i2d (nI n) := by
  rw [Jvm.FP.l2d_core, Jvm.FP.i2d_core]
  unfold Jvm.FP.Core.l2d Jvm.FP.Core.i2d
  rw [← nI_l h, Int32.toInt_toInt64]

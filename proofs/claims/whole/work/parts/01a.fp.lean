/-! facts on floats (here, so that the first round goes over to the whole library at once) -/
theorem n64_iff (x : UInt64) : vf_n64 x ↔ Jvm.FP.Core.dIsNaN x = false := by
  have e1 : (0x7fffffffffffffff : UInt64).toNat = 2 ^ 63 - 1 := by decide
  have e2 : (0x7ff0000000000000 : UInt64).toNat = 9218868437227405312 := by decide
  unfold vf_n64
  rw [← Bool.not_eq_true, Jvm.FP.Core.isNaN_bits, Nat.not_lt, UInt64.le_iff_toNat_le, UInt64.toNat_and, e1, e2, Nat.and_two_pow_sub_one_eq_mod]
theorem n32_iff (x : UInt32) : vf_n32 x ↔ Jvm.FP.Core.fIsNaN x = false := by
  have e1 : (0x7fffffff : UInt32).toNat = 2 ^ 31 - 1 := by decide
  have e2 : (0x7f800000 : UInt32).toNat = 2139095040 := by decide
  unfold vf_n32
  rw [← Bool.not_eq_true, Jvm.FP.Core.isNaN_bits32, Nat.not_lt, UInt32.le_iff_toNat_le, UInt32.toNat_and, e1, e2, Nat.and_two_pow_sub_one_eq_mod]
theorem i32_ne0 {b : Int} (hb : 1 ≤ b ∧ b < 2147483648) : Int32.ofInt b ≠ 0 := by
  intro h
  have h1 := congrArg Int32.toInt h
  rw [Int32.toInt_ofInt_of_le (by omega) (by omega)] at h1
  have h2 : (0 : Int32).toInt = 0 := by decide
  omega
theorem fp_d (a : Int) {b : Int} (hb : 1 ≤ b ∧ b < 2147483648) : vf_n64 (FP.ddiv (FP.i2d (Int32.ofInt a)) (FP.i2d (Int32.ofInt b))) :=
  (n64_iff _).mpr (Jvm.FP.Core.ddiv_out (Jvm.FP.Core.i2d_fin (Int32.ofInt a)).notNaN (Jvm.FP.Core.i2d_fin (Int32.ofInt b)) (fun hz => Jvm.FP.Core.i2d_ne_zero (i32_ne0 hb) ((Jvm.FP.Core.zero_bits2 _).mp hz)))
theorem fp_f (a : Int) {b : Int} (hb : 1 ≤ b ∧ b < 2147483648) : vf_n32 (FP.fdiv (FP.i2f (Int32.ofInt a)) (FP.i2f (Int32.ofInt b))) :=
  (n32_iff _).mpr (Jvm.FP.Core.fdiv_out (Jvm.FP.Core.i2f_fin (Int32.ofInt a)).notNaN (Jvm.FP.Core.i2f_fin (Int32.ofInt b)) (fun hz => Jvm.FP.Core.i2f_ne_zero (i32_ne0 hb) ((Jvm.FP.Core.zero_bits232 _).mp hz)))
theorem fp_fd {x : UInt32} (h : vf_n32 x) : vf_n64 (FP.f2d x) :=
  (n64_iff _).mpr ((Jvm.FP.f2d_nan x).trans ((n32_iff x).mp h))
theorem fp_eq {x : UInt64} (h : vf_n64 x) : FP.dcmp x x = some .eq := Jvm.FP.Core.dcmp_refl ((n64_iff x).mp h)

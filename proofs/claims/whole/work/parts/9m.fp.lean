theorem n64_of {r : UInt64} (h : Jvm.FP.Core.dIsNaN r = false) : vf_n64 r := by
  unfold vf_n64
  have h1 : ¬ 9218868437227405312 < r.toNat % 2 ^ 63 := fun h2 => by
    have := (Jvm.FP.Core.isNaN_bits r).mpr h2
    rw [h] at this
    exact absurd this (by decide)
  rw [UInt64.le_iff_toNat_le, UInt64.toNat_and, show (0x7fffffffffffffff : UInt64).toNat = 2 ^ 63 - 1 by decide, show (0x7ff0000000000000 : UInt64).toNat = 9218868437227405312 by decide, Nat.and_two_pow_sub_one_eq_mod]
  omega
theorem n32_of {r : UInt32} (h : Jvm.FP.Core.fIsNaN r = false) : vf_n32 r := by
  unfold vf_n32
  have h1 : ¬ 2139095040 < r.toNat % 2 ^ 31 := fun h2 => by
    have := (Jvm.FP.Core.isNaN_bits32 r).mpr h2
    rw [h] at this
    exact absurd this (by decide)
  rw [UInt32.le_iff_toNat_le, UInt32.toNat_and, show (0x7fffffff : UInt32).toNat = 2 ^ 31 - 1 by decide, show (0x7f800000 : UInt32).toNat = 2139095040 by decide, Nat.and_two_pow_sub_one_eq_mod]
  omega
theorem fq_dd {x y : Int32} (h : ¬ y = 0) : vf_n64 (FP.ddiv (FP.i2d x) (FP.i2d y)) :=
  n64_of (Jvm.FP.Core.ddiv_out (a := Jvm.FP.Core.i2d x) (b := Jvm.FP.Core.i2d y) (Jvm.FP.Core.i2d_fin x).notNaN (Jvm.FP.Core.i2d_fin y) (fun hz => Jvm.FP.Core.i2d_ne_zero h ((Jvm.FP.Core.zero_bits2 _).mp hz)))
theorem fq_ff {x y : Int32} (h : ¬ y = 0) : vf_n32 (FP.fdiv (FP.i2f x) (FP.i2f y)) :=
  n32_of (Jvm.FP.Core.fdiv_out (a := Jvm.FP.Core.i2f x) (b := Jvm.FP.Core.i2f y) (Jvm.FP.Core.i2f_fin x).notNaN (Jvm.FP.Core.i2f_fin y) (fun hz => Jvm.FP.Core.i2f_ne_zero h ((Jvm.FP.Core.zero_bits232 _).mp hz)))
theorem fq_i2d_div100 (x : Int32) : vf_n64 (FP.ddiv (FP.i2d x) (4636737291354636288 : UInt64)) := by
  rw [show (4636737291354636288 : UInt64) = FP.i2d 100 by decide +kernel]
  exact fq_dd (by decide)
theorem fq_i2d_div10 (x : Int32) : vf_n64 (FP.ddiv (FP.i2d x) (4621819117588971520 : UInt64)) := by
  rw [show (4621819117588971520 : UInt64) = FP.i2d 10 by decide +kernel]
  exact fq_dd (by decide)
theorem fq_i2d_div5 (x : Int32) : vf_n64 (FP.ddiv (FP.i2d x) (4617315517961601024 : UInt64)) := by
  rw [show (4617315517961601024 : UInt64) = FP.i2d 5 by decide +kernel]
  exact fq_dd (by decide)

/-! doubles of ours: how large they can be; that none is a NaN -/
theorem nan_of {a : UInt64} {K : Nat} (h : a.toNat % 2 ^ 63 < K * 2 ^ 52) (hK : K ≤ 2047) : vf_n64 a := by
  unfold vf_n64
  rw [UInt64.le_iff_toNat_le, UInt64.toNat_and]
  have h1 : (0x7fffffffffffffff : UInt64).toNat = 2 ^ 63 - 1 := by decide
  have h2 : (0x7ff0000000000000 : UInt64).toNat = 9218868437227405312 := by decide
  rw [h1, h2, Nat.and_two_pow_sub_one_eq_mod]
  omega
theorem mg_hundred (x : Int32) : (FP.ddiv (FP.i2d x) 4636737291354636288).toNat % 2 ^ 63 < 1051 * 2 ^ 52 :=
  FP.Core.ddiv_mag (K := 1056) (L := 1029) (FP.Core.i2d_mag x) (by decide) (by decide) (by decide) (by decide)
theorem mg_table (x y : Int32) : (FP.dmul (FP.i2d x) (FP.ddiv (FP.i2d y) 4636737291354636288)).toNat % 2 ^ 63 < 1085 * 2 ^ 52 :=
  FP.Core.dmul_mag (Ka := 1056) (Kb := 1051) (FP.Core.i2d_mag x) (mg_hundred y) (by decide) (by decide)
theorem mg_hold (x y : Int32) {z : UInt64} (hz : z.toNat % 2 ^ 63 < 1024 * 2 ^ 52) : (FP.dmul (FP.dmul (FP.i2d x) (FP.ddiv (FP.i2d y) 4636737291354636288)) z).toNat % 2 ^ 63 < 1087 * 2 ^ 52 :=
  FP.Core.dmul_mag (Ka := 1085) (Kb := 1024) (mg_table x y) hz (by decide) (by decide)
theorem mg_left {x : UInt64} (hx : x.toNat % 2 ^ 63 < 1087 * 2 ^ 52) (y : Int32) : (FP.dsub x (FP.i2d y)).toNat % 2 ^ 63 < 1089 * 2 ^ 52 :=
  FP.Core.dsub_mag (K := 1087) hx (Nat.lt_of_lt_of_le (FP.Core.i2d_mag y) (by decide)) (by decide)

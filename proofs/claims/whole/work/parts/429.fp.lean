/-! pure: quotients of small numbers are numbers -/
theorem dv_num' (s r : Int32) (hr : r ≠ 0) : (FP.ddiv (FP.i2d s) (FP.i2d r)) &&& 0x7fffffffffffffff ≤ 0x7ff0000000000000 := by
  have h : Jvm.FP.Core.dIsNaN (FP.ddiv (FP.i2d s) (FP.i2d r)) = false := Jvm.FP.Core.ddiv_out (Jvm.FP.Core.i2d_fin s).notNaN (Jvm.FP.Core.i2d_fin r) (fun hz => Jvm.FP.Core.i2d_ne_zero hr ((Jvm.FP.Core.zero_bits2 _).mp hz))
  rw [UInt64.le_iff_toNat_le, Jvm.FP.Core.mask_toNat]
  have h2 : ¬ (9218868437227405312 < (FP.ddiv (FP.i2d s) (FP.i2d r)).toNat % 2 ^ 63) := fun q => by
    rw [(Jvm.FP.Core.isNaN_bits _).mpr q] at h
    cases h
  exact Nat.le_of_not_lt h2
theorem dv_num : ∀ s, s < 325 → ∀ r, r < 37 → r ≠ 0 → (FP.ddiv (FP.i2d (z (s : Nat))) (FP.i2d (z (r : Nat)))) &&& 0x7fffffffffffffff ≤ 0x7ff0000000000000 := fun s _ r h1 h2 => dv_num' _ _ (by rw [show (0 : Int32) = z 0 from rfl, Ne, z_eq (by omega) (by omega) (by omega) (by omega)]; omega)
theorem fv_num : ∀ k, k < 37 → (FP.fdiv (FP.i2f (z (k : Nat))) (1108344832 : UInt32)) &&& 0x7fffffff ≤ 0x7f800000 ∧ (FP.f2d (FP.fdiv (FP.i2f (z (k : Nat))) (1108344832 : UInt32))) &&& 0x7fffffffffffffff ≤ 0x7ff0000000000000 := by decide +kernel

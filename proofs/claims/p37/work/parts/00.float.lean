/-! THE MEAN: doubles, and draws -/
theorem z_nan (b : UInt64) : isNaN64 b = true ↔ FP.Core.val64 b = .nan := by
  have e1 : (0x7fffffffffffffff : UInt64).toNat = 2 ^ 63 - 1 := by decide +kernel
  have e2 : (0x7ff0000000000000 : UInt64).toNat = 9218868437227405312 := by decide +kernel
  have e3 : isNaN64 b = true ↔ (0x7ff0000000000000 : UInt64) < b &&& 0x7fffffffffffffff := decide_eq_true_iff
  rw [e3, UInt64.lt_iff_toNat_lt, UInt64.toNat_and, e1, e2, Nat.and_two_pow_sub_one_eq_mod, ← FP.Core.isNaN_bits, FP.Core.dIsNaN_iff]
theorem z_dc_n {x y : UInt64} (h : FP.Core.val64 x = .nan ∨ FP.Core.val64 y = .nan) : ¬ Op.cmpValue (FP.dcmp x y) .l = 0 := by
  rw [show FP.dcmp x y = none from (FP.Core.dcmp_none x y).mpr h]
  decide
theorem z_dc_e {x : UInt64} (h : FP.Core.val64 x ≠ .nan) : Op.cmpValue (FP.dcmp x x) .l = 0 := by
  rw [show FP.dcmp x x = some .eq from FP.Core.dcmp_self h]
  rfl
theorem z_alike {r q v : UInt64} (h1 : alike64 r v = true) (h2 : alike64 q v = true) : r = q ∨ (FP.Core.val64 r = .nan ∧ FP.Core.val64 q = .nan) := by
  unfold alike64 at h1 h2
  simp only [Bool.or_eq_true, decide_eq_true_eq, Bool.and_eq_true, z_nan] at h1 h2
  rcases h1 with rfl | ⟨a, b⟩
  · rcases h2 with rfl | ⟨c, d⟩
    · exact Or.inl rfl
    · exact Or.inr ⟨d, c⟩
  · rcases h2 with rfl | ⟨c, d⟩
    · exact Or.inr ⟨a, b⟩
    · exact Or.inr ⟨a, c⟩
/-- a quotient of whole numbers, the second not 0, is a number -/
theorem z_fl (a b : Int32) (hb : b ≠ 0) : FP.Core.val64 (FP.ddiv (FP.i2d a) (FP.i2d b)) ≠ .nan := by
  intro h
  have h2 : FP.Core.dIsNaN (FP.ddiv (FP.i2d a) (FP.i2d b)) = false := FP.Core.ddiv_out (FP.Core.i2d_fin a).notNaN (FP.Core.i2d_fin b) (fun z => FP.Core.i2d_ne_zero hb ((FP.Core.zero_bits2 _).mp z))
  rw [(FP.Core.dIsNaN_iff _).mpr h] at h2
  exact absurd h2 (by decide)
theorem z_al {r v : UInt64} (h : alike64 r v = true) (hv : FP.Core.val64 v ≠ .nan) : r = v := by
  unfold alike64 at h
  simp only [Bool.or_eq_true, decide_eq_true_eq, Bool.and_eq_true, z_nan] at h
  rcases h with h | h
  · exact h
  · exact absurd h.2 hv
theorem z_f0 : FP.Core.val64 FP.dconst0 ≠ .nan := by decide

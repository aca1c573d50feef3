theorem mean_d : ∀ b, b < 37 → b ≠ 0 → ∀ a, a < 334 → isNaN64 (FP.ddiv (FP.i2d (nI a)) (FP.i2d (nI b))) = false ∧ Op.cmpValue (FP.dcmp (FP.ddiv (FP.i2d (nI a)) (FP.i2d (nI b))) (FP.ddiv (FP.i2d (nI a)) (FP.i2d (nI b)))) CmpOp.l = 0 := by decide +kernel
theorem mean_0 : isNaN64 FP.dconst0 = false ∧ Op.cmpValue (FP.dcmp FP.dconst0 FP.dconst0) CmpOp.l = 0 := by decide +kernel

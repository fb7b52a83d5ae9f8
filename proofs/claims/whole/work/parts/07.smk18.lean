/-! THE PROGRAM: each row holds. -/
theorem sk_182_0 : ((sp_182).take 97).all (sm_okR 182) = true := by decide +kernel
theorem sk_182_1 : (((sp_182).drop 97).take 97).all (sm_okR 182) = true := by decide +kernel
theorem sk_182_2 : (((sp_182).drop 97).drop 97).all (sm_okR 182) = true := by decide +kernel
theorem sk_182 : sp_182.all (sm_okR 182) = true := sm_allC 97 sk_182_0 (sm_allC 97 sk_182_1 (sk_182_2))

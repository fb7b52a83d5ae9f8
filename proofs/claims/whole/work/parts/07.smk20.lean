/-! THE PROGRAM: each row holds. -/
theorem sk_188_1 : ((sp_188).drop 159).all (sm_okR 188) = true := by decide +kernel
theorem sk_188 : sp_188.all (sm_okR 188) = true := sm_allC 159 sk_188_0 (sk_188_1)
theorem sk_189 : sp_189.all (sm_okR 189) = true := by decide +kernel
theorem sk_190_0 : ((sp_190).take 120).all (sm_okR 190) = true := by decide +kernel
theorem sk_190_1 : ((sp_190).drop 120).all (sm_okR 190) = true := by decide +kernel
theorem sk_190 : sp_190.all (sm_okR 190) = true := sm_allC 120 sk_190_0 (sk_190_1)

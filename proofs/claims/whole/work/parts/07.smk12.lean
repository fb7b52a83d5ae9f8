/-! THE PROGRAM: each row holds. -/
theorem sk_148 : sp_148.all (sm_okR 148) = true := by decide +kernel
theorem sk_149 : sp_149.all (sm_okR 149) = true := by decide +kernel
theorem sk_150 : sp_150.all (sm_okR 150) = true := by decide +kernel
theorem sk_151 : sp_151.all (sm_okR 151) = true := by decide +kernel
theorem sk_152_0 : ((sp_152).take 24).all (sm_okR 152) = true := by decide +kernel
theorem sk_152_1 : (((sp_152).drop 24).take 24).all (sm_okR 152) = true := by decide +kernel
theorem sk_152_2 : (((sp_152).drop 24).drop 24).all (sm_okR 152) = true := by decide +kernel
theorem sk_152 : sp_152.all (sm_okR 152) = true := sm_allC 24 sk_152_0 (sm_allC 24 sk_152_1 (sk_152_2))

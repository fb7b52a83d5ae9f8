/-! THE PROGRAM: each row holds. -/
theorem sk_160_1 : (((sp_160).drop 62).take 62).all (sm_okR 160) = true := by decide +kernel
theorem sk_160_2 : ((((sp_160).drop 62).drop 62).take 62).all (sm_okR 160) = true := by decide +kernel
theorem sk_160_3 : ((((sp_160).drop 62).drop 62).drop 62).all (sm_okR 160) = true := by decide +kernel
theorem sk_160 : sp_160.all (sm_okR 160) = true := sm_allC 62 sk_160_0 (sm_allC 62 sk_160_1 (sm_allC 62 sk_160_2 (sk_160_3)))

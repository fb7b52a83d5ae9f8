/-! THE PROGRAM: each row holds. -/
theorem sk_221_1 : ((sp_221).drop 120).all (sm_okR 221) = true := by decide +kernel
theorem sk_221 : sp_221.all (sm_okR 221) = true := sm_allC 120 sk_221_0 (sk_221_1)
theorem sk_222 : sp_222.all (sm_okR 222) = true := by decide +kernel
theorem sk_223 : sp_223.all (sm_okR 223) = true := by decide +kernel
theorem sk_224 : sp_224.all (sm_okR 224) = true := by decide +kernel
theorem sk_225_0 : ((sp_225).take 23).all (sm_okR 225) = true := by decide +kernel

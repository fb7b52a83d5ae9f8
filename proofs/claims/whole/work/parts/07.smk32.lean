/-! THE PROGRAM: each row holds. -/
theorem sk_225_16 : ((((((((((((((((((sp_225).drop 23).drop 23).drop 23).drop 23).drop 23).drop 23).drop 23).drop 23).drop 23).drop 23).drop 23).drop 23).drop 23).drop 23).drop 23).drop 23).take 23).all (sm_okR 225) = true := by decide +kernel
theorem sk_225_17 : (((((((((((((((((((sp_225).drop 23).drop 23).drop 23).drop 23).drop 23).drop 23).drop 23).drop 23).drop 23).drop 23).drop 23).drop 23).drop 23).drop 23).drop 23).drop 23).drop 23).take 23).all (sm_okR 225) = true := by decide +kernel
theorem sk_225_18 : ((((((((((((((((((((sp_225).drop 23).drop 23).drop 23).drop 23).drop 23).drop 23).drop 23).drop 23).drop 23).drop 23).drop 23).drop 23).drop 23).drop 23).drop 23).drop 23).drop 23).drop 23).take 23).all (sm_okR 225) = true := by decide +kernel

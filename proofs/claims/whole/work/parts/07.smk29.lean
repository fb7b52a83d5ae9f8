/-! THE PROGRAM: each row holds. -/
theorem sk_225_7 : (((((((((sp_225).drop 23).drop 23).drop 23).drop 23).drop 23).drop 23).drop 23).take 23).all (sm_okR 225) = true := by decide +kernel
theorem sk_225_8 : ((((((((((sp_225).drop 23).drop 23).drop 23).drop 23).drop 23).drop 23).drop 23).drop 23).take 23).all (sm_okR 225) = true := by decide +kernel
theorem sk_225_9 : (((((((((((sp_225).drop 23).drop 23).drop 23).drop 23).drop 23).drop 23).drop 23).drop 23).drop 23).take 23).all (sm_okR 225) = true := by decide +kernel

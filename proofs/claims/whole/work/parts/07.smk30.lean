/-! THE PROGRAM: each row holds. -/
theorem sk_225_10 : ((((((((((((sp_225).drop 23).drop 23).drop 23).drop 23).drop 23).drop 23).drop 23).drop 23).drop 23).drop 23).take 23).all (sm_okR 225) = true := by decide +kernel
theorem sk_225_11 : (((((((((((((sp_225).drop 23).drop 23).drop 23).drop 23).drop 23).drop 23).drop 23).drop 23).drop 23).drop 23).drop 23).take 23).all (sm_okR 225) = true := by decide +kernel
theorem sk_225_12 : ((((((((((((((sp_225).drop 23).drop 23).drop 23).drop 23).drop 23).drop 23).drop 23).drop 23).drop 23).drop 23).drop 23).drop 23).take 23).all (sm_okR 225) = true := by decide +kernel

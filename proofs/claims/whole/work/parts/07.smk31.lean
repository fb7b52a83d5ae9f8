/-! THE PROGRAM: each row holds. -/
theorem sk_225_13 : (((((((((((((((sp_225).drop 23).drop 23).drop 23).drop 23).drop 23).drop 23).drop 23).drop 23).drop 23).drop 23).drop 23).drop 23).drop 23).take 23).all (sm_okR 225) = true := by decide +kernel
theorem sk_225_14 : ((((((((((((((((sp_225).drop 23).drop 23).drop 23).drop 23).drop 23).drop 23).drop 23).drop 23).drop 23).drop 23).drop 23).drop 23).drop 23).drop 23).take 23).all (sm_okR 225) = true := by decide +kernel
theorem sk_225_15 : (((((((((((((((((sp_225).drop 23).drop 23).drop 23).drop 23).drop 23).drop 23).drop 23).drop 23).drop 23).drop 23).drop 23).drop 23).drop 23).drop 23).drop 23).take 23).all (sm_okR 225) = true := by decide +kernel

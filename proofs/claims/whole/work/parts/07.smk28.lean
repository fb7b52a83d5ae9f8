/-! THE PROGRAM: each row holds. -/
theorem sk_225_4 : ((((((sp_225).drop 23).drop 23).drop 23).drop 23).take 23).all (sm_okR 225) = true := by decide +kernel
theorem sk_225_5 : (((((((sp_225).drop 23).drop 23).drop 23).drop 23).drop 23).take 23).all (sm_okR 225) = true := by decide +kernel
theorem sk_225_6 : ((((((((sp_225).drop 23).drop 23).drop 23).drop 23).drop 23).drop 23).take 23).all (sm_okR 225) = true := by decide +kernel

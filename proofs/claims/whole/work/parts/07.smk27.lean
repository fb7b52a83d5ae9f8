/-! THE PROGRAM: each row holds. -/
theorem sk_225_1 : (((sp_225).drop 23).take 23).all (sm_okR 225) = true := by decide +kernel
theorem sk_225_2 : ((((sp_225).drop 23).drop 23).take 23).all (sm_okR 225) = true := by decide +kernel
theorem sk_225_3 : (((((sp_225).drop 23).drop 23).drop 23).take 23).all (sm_okR 225) = true := by decide +kernel

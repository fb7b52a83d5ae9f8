/-! THE PROGRAM: each row holds. -/
theorem sk_206_0 : ((sp_206).take 159).all (sm_okR 206) = true := by decide +kernel
theorem sk_206_1 : ((sp_206).drop 159).all (sm_okR 206) = true := by decide +kernel
theorem sk_206 : sp_206.all (sm_okR 206) = true := sm_allC 159 sk_206_0 (sk_206_1)
theorem sk_207_0 : ((sp_207).take 125).all (sm_okR 207) = true := by decide +kernel

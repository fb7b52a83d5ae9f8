/-! THE PROGRAM: each row holds. -/
theorem sk_207_1 : ((sp_207).drop 125).all (sm_okR 207) = true := by decide +kernel
theorem sk_207 : sp_207.all (sm_okR 207) = true := sm_allC 125 sk_207_0 (sk_207_1)
theorem sk_208 : sp_208.all (sm_okR 208) = true := by decide +kernel
theorem sk_209 : sp_209.all (sm_okR 209) = true := by decide +kernel
theorem sk_210 : sp_210.all (sm_okR 210) = true := by decide +kernel
theorem sk_211 : sp_211.all (sm_okR 211) = true := by decide +kernel
theorem sk_212 : sp_212.all (sm_okR 212) = true := by decide +kernel
theorem sk_213 : sp_213.all (sm_okR 213) = true := by decide +kernel
theorem sk_214 : sp_214.all (sm_okR 214) = true := by decide +kernel
theorem sk_215 : sp_215.all (sm_okR 215) = true := by decide +kernel

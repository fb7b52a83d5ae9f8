/-! THE PROGRAM: each row holds. -/
theorem sk_141 : sp_141.all (sm_okR 141) = true := by decide +kernel
theorem sk_142 : sp_142.all (sm_okR 142) = true := by decide +kernel
theorem sk_143 : sp_143.all (sm_okR 143) = true := by decide +kernel
theorem sk_144 : sp_144.all (sm_okR 144) = true := by decide +kernel
theorem sk_145 : sp_145.all (sm_okR 145) = true := by decide +kernel
theorem sk_146 : sp_146.all (sm_okR 146) = true := by decide +kernel
theorem sk_147_0 : ((sp_147).take 25).all (sm_okR 147) = true := by decide +kernel
theorem sk_147_1 : ((sp_147).drop 25).all (sm_okR 147) = true := by decide +kernel
theorem sk_147 : sp_147.all (sm_okR 147) = true := sm_allC 25 sk_147_0 (sk_147_1)

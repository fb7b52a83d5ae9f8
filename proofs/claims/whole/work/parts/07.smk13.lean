/-! THE PROGRAM: each row holds. -/
theorem sk_153 : sp_153.all (sm_okR 153) = true := by decide +kernel
theorem sk_154 : sp_154.all (sm_okR 154) = true := by decide +kernel
theorem sk_155 : sp_155.all (sm_okR 155) = true := by decide +kernel
theorem sk_156 : sp_156.all (sm_okR 156) = true := by decide +kernel
theorem sk_157_0 : ((sp_157).take 26).all (sm_okR 157) = true := by decide +kernel
theorem sk_157_1 : ((sp_157).drop 26).all (sm_okR 157) = true := by decide +kernel
theorem sk_157 : sp_157.all (sm_okR 157) = true := sm_allC 26 sk_157_0 (sk_157_1)
theorem sk_158 : sp_158.all (sm_okR 158) = true := by decide +kernel
theorem sk_159 : sp_159.all (sm_okR 159) = true := by decide +kernel
theorem sk_160_0 : ((sp_160).take 62).all (sm_okR 160) = true := by decide +kernel

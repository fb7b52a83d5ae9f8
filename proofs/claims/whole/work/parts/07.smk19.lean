/-! THE PROGRAM: each row holds. -/
theorem sk_183 : sp_183.all (sm_okR 183) = true := by decide +kernel
theorem sk_184 : sp_184.all (sm_okR 184) = true := by decide +kernel
theorem sk_185 : sp_185.all (sm_okR 185) = true := by decide +kernel
theorem sk_186 : sp_186.all (sm_okR 186) = true := by decide +kernel
theorem sk_187 : sp_187.all (sm_okR 187) = true := by decide +kernel
theorem sk_188_0 : ((sp_188).take 159).all (sm_okR 188) = true := by decide +kernel

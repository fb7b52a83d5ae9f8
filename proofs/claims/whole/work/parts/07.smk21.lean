/-! THE PROGRAM: each row holds. -/
theorem sk_191 : sp_191.all (sm_okR 191) = true := by decide +kernel
theorem sk_192 : sp_192.all (sm_okR 192) = true := by decide +kernel
theorem sk_193 : sp_193.all (sm_okR 193) = true := by decide +kernel
theorem sk_194 : sp_194.all (sm_okR 194) = true := by decide +kernel
theorem sk_195 : sp_195.all (sm_okR 195) = true := by decide +kernel
theorem sk_196 : sp_196.all (sm_okR 196) = true := by decide +kernel
theorem sk_197 : sp_197.all (sm_okR 197) = true := by decide +kernel
theorem sk_198_0 : ((sp_198).take 79).all (sm_okR 198) = true := by decide +kernel
theorem sk_198_1 : ((sp_198).drop 79).all (sm_okR 198) = true := by decide +kernel
theorem sk_198 : sp_198.all (sm_okR 198) = true := sm_allC 79 sk_198_0 (sk_198_1)

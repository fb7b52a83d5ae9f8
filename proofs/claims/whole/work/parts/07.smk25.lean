/-! THE PROGRAM: each row holds. -/
theorem sk_216 : sp_216.all (sm_okR 216) = true := by decide +kernel
theorem sk_217 : sp_217.all (sm_okR 217) = true := by decide +kernel
theorem sk_218 : sp_218.all (sm_okR 218) = true := by decide +kernel
theorem sk_219 : sp_219.all (sm_okR 219) = true := by decide +kernel
theorem sk_220 : sp_220.all (sm_okR 220) = true := by decide +kernel
theorem sk_221_0 : ((sp_221).take 120).all (sm_okR 221) = true := by decide +kernel

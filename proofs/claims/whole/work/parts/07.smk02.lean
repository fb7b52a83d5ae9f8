/-! THE PROGRAM: each row holds. -/
theorem sk_23 : sp_23.all (sm_okR 23) = true := by decide +kernel
theorem sk_24_0 : ((sp_24).take 25).all (sm_okR 24) = true := by decide +kernel
theorem sk_24_1 : ((sp_24).drop 25).all (sm_okR 24) = true := by decide +kernel
theorem sk_24 : sp_24.all (sm_okR 24) = true := sm_allC 25 sk_24_0 (sk_24_1)
theorem sk_25 : sp_25.all (sm_okR 25) = true := by decide +kernel
theorem sk_26 : sp_26.all (sm_okR 26) = true := by decide +kernel
theorem sk_27 : sp_27.all (sm_okR 27) = true := by decide +kernel
theorem sk_28 : sp_28.all (sm_okR 28) = true := by decide +kernel
theorem sk_29 : sp_29.all (sm_okR 29) = true := by decide +kernel
theorem sk_30 : sp_30.all (sm_okR 30) = true := by decide +kernel
theorem sk_31 : sp_31.all (sm_okR 31) = true := by decide +kernel
theorem sk_32 : sp_32.all (sm_okR 32) = true := by decide +kernel
theorem sk_33 : sp_33.all (sm_okR 33) = true := by decide +kernel

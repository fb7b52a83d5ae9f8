/-! THE PROGRAM: each row holds. -/
theorem sk_11 : sp_11.all (sm_okR 11) = true := by decide +kernel
theorem sk_12 : sp_12.all (sm_okR 12) = true := by decide +kernel
theorem sk_13 : sp_13.all (sm_okR 13) = true := by decide +kernel
theorem sk_14 : sp_14.all (sm_okR 14) = true := by decide +kernel
theorem sk_15 : sp_15.all (sm_okR 15) = true := by decide +kernel
theorem sk_16 : sp_16.all (sm_okR 16) = true := by decide +kernel
theorem sk_17 : sp_17.all (sm_okR 17) = true := by decide +kernel
theorem sk_18_0 : ((sp_18).take 27).all (sm_okR 18) = true := by decide +kernel
theorem sk_18_1 : ((sp_18).drop 27).all (sm_okR 18) = true := by decide +kernel
theorem sk_18 : sp_18.all (sm_okR 18) = true := sm_allC 27 sk_18_0 (sk_18_1)
theorem sk_19 : sp_19.all (sm_okR 19) = true := by decide +kernel
theorem sk_20 : sp_20.all (sm_okR 20) = true := by decide +kernel
theorem sk_21 : sp_21.all (sm_okR 21) = true := by decide +kernel
theorem sk_22 : sp_22.all (sm_okR 22) = true := by decide +kernel

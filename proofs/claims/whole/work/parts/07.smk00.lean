/-! THE PROGRAM: each row holds. -/
theorem sk_0_0 : ((sp_0).take 46).all (sm_okR 0) = true := by decide +kernel
theorem sk_0_1 : ((sp_0).drop 46).all (sm_okR 0) = true := by decide +kernel
theorem sk_0 : sp_0.all (sm_okR 0) = true := sm_allC 46 sk_0_0 (sk_0_1)
theorem sk_1 : sp_1.all (sm_okR 1) = true := by decide +kernel
theorem sk_2 : sp_2.all (sm_okR 2) = true := by decide +kernel
theorem sk_3 : sp_3.all (sm_okR 3) = true := by decide +kernel
theorem sk_4 : sp_4.all (sm_okR 4) = true := by decide +kernel
theorem sk_5 : sp_5.all (sm_okR 5) = true := by decide +kernel
theorem sk_6 : sp_6.all (sm_okR 6) = true := by decide +kernel
theorem sk_7 : sp_7.all (sm_okR 7) = true := by decide +kernel
theorem sk_8 : sp_8.all (sm_okR 8) = true := by decide +kernel
theorem sk_9 : sp_9.all (sm_okR 9) = true := by decide +kernel
theorem sk_10 : sp_10.all (sm_okR 10) = true := by decide +kernel

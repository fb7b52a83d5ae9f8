/-! THE PROGRAM: each row holds. -/
theorem sk_72 : sp_72.all (sm_okR 72) = true := by decide +kernel
theorem sk_73 : sp_73.all (sm_okR 73) = true := by decide +kernel
theorem sk_74 : sp_74.all (sm_okR 74) = true := by decide +kernel
theorem sk_75 : sp_75.all (sm_okR 75) = true := by decide +kernel
theorem sk_76 : sp_76.all (sm_okR 76) = true := by decide +kernel
theorem sk_77_0 : ((sp_77).take 23).all (sm_okR 77) = true := by decide +kernel
theorem sk_77_1 : (((sp_77).drop 23).take 23).all (sm_okR 77) = true := by decide +kernel
theorem sk_77_2 : (((sp_77).drop 23).drop 23).all (sm_okR 77) = true := by decide +kernel
theorem sk_77 : sp_77.all (sm_okR 77) = true := sm_allC 23 sk_77_0 (sm_allC 23 sk_77_1 (sk_77_2))

/-! THE PROGRAM: each row holds. -/
theorem sk_78 : sp_78.all (sm_okR 78) = true := by decide +kernel
theorem sk_79 : sp_79.all (sm_okR 79) = true := by decide +kernel
theorem sk_80 : sp_80.all (sm_okR 80) = true := by decide +kernel
theorem sk_81 : sp_81.all (sm_okR 81) = true := by decide +kernel
theorem sk_82 : sp_82.all (sm_okR 82) = true := by decide +kernel
theorem sk_83 : sp_83.all (sm_okR 83) = true := by decide +kernel
theorem sk_84 : sp_84.all (sm_okR 84) = true := by decide +kernel
theorem sk_85 : sp_85.all (sm_okR 85) = true := by decide +kernel
theorem sk_86_0 : ((sp_86).take 20).all (sm_okR 86) = true := by decide +kernel
theorem sk_86_1 : (((sp_86).drop 20).take 20).all (sm_okR 86) = true := by decide +kernel
theorem sk_86_2 : ((((sp_86).drop 20).drop 20).take 20).all (sm_okR 86) = true := by decide +kernel

/-! THE PROGRAM: each row holds. -/
theorem sk_86_3 : (((((sp_86).drop 20).drop 20).drop 20).take 20).all (sm_okR 86) = true := by decide +kernel
theorem sk_86_4 : (((((sp_86).drop 20).drop 20).drop 20).drop 20).all (sm_okR 86) = true := by decide +kernel
theorem sk_86 : sp_86.all (sm_okR 86) = true := sm_allC 20 sk_86_0 (sm_allC 20 sk_86_1 (sm_allC 20 sk_86_2 (sm_allC 20 sk_86_3 (sk_86_4))))
theorem sk_87 : sp_87.all (sm_okR 87) = true := by decide +kernel
theorem sk_88 : sp_88.all (sm_okR 88) = true := by decide +kernel
theorem sk_89 : sp_89.all (sm_okR 89) = true := by decide +kernel
theorem sk_90 : sp_90.all (sm_okR 90) = true := by decide +kernel

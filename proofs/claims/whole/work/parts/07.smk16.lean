/-! THE PROGRAM: each row holds. -/
theorem sk_168_3 : (((((sp_168).drop 51).drop 51).drop 51).take 51).all (sm_okR 168) = true := by decide +kernel
theorem sk_168_4 : (((((sp_168).drop 51).drop 51).drop 51).drop 51).all (sm_okR 168) = true := by decide +kernel
theorem sk_168 : sp_168.all (sm_okR 168) = true := sm_allC 51 sk_168_0 (sm_allC 51 sk_168_1 (sm_allC 51 sk_168_2 (sm_allC 51 sk_168_3 (sk_168_4))))
theorem sk_169 : sp_169.all (sm_okR 169) = true := by decide +kernel
theorem sk_170_0 : ((sp_170).take 184).all (sm_okR 170) = true := by decide +kernel

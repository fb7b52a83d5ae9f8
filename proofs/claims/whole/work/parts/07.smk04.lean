/-! THE PROGRAM: each row holds. -/
theorem sk_56_1 : ((sp_56).drop 25).all (sm_okR 56) = true := by decide +kernel
theorem sk_56 : sp_56.all (sm_okR 56) = true := sm_allC 25 sk_56_0 (sk_56_1)
theorem sk_57 : sp_57.all (sm_okR 57) = true := by decide +kernel
theorem sk_58 : sp_58.all (sm_okR 58) = true := by decide +kernel
theorem sk_59 : sp_59.all (sm_okR 59) = true := by decide +kernel
theorem sk_60 : sp_60.all (sm_okR 60) = true := by decide +kernel
theorem sk_61 : sp_61.all (sm_okR 61) = true := by decide +kernel
theorem sk_62 : sp_62.all (sm_okR 62) = true := by decide +kernel
theorem sk_63 : sp_63.all (sm_okR 63) = true := by decide +kernel
theorem sk_64 : sp_64.all (sm_okR 64) = true := by decide +kernel
theorem sk_65 : sp_65.all (sm_okR 65) = true := by decide +kernel
theorem sk_66 : sp_66.all (sm_okR 66) = true := by decide +kernel
theorem sk_67 : sp_67.all (sm_okR 67) = true := by decide +kernel
theorem sk_68 : sp_68.all (sm_okR 68) = true := by decide +kernel
theorem sk_69 : sp_69.all (sm_okR 69) = true := by decide +kernel
theorem sk_70 : sp_70.all (sm_okR 70) = true := by decide +kernel
theorem sk_71 : sp_71.all (sm_okR 71) = true := by decide +kernel

/-! THE PROGRAM: each row holds. -/
theorem sk_91 : sp_91.all (sm_okR 91) = true := by decide +kernel
theorem sk_92 : sp_92.all (sm_okR 92) = true := by decide +kernel
theorem sk_93 : sp_93.all (sm_okR 93) = true := by decide +kernel
theorem sk_94 : sp_94.all (sm_okR 94) = true := by decide +kernel
theorem sk_95 : sp_95.all (sm_okR 95) = true := by decide +kernel
theorem sk_96 : sp_96.all (sm_okR 96) = true := by decide +kernel
theorem sk_97 : sp_97.all (sm_okR 97) = true := by decide +kernel
theorem sk_98 : sp_98.all (sm_okR 98) = true := by decide +kernel
theorem sk_99 : sp_99.all (sm_okR 99) = true := by decide +kernel
theorem sk_100 : sp_100.all (sm_okR 100) = true := by decide +kernel
theorem sk_101 : sp_101.all (sm_okR 101) = true := by decide +kernel
theorem sk_102 : sp_102.all (sm_okR 102) = true := by decide +kernel
theorem sk_103 : sp_103.all (sm_okR 103) = true := by decide +kernel
theorem sk_104 : sp_104.all (sm_okR 104) = true := by decide +kernel
theorem sk_105 : sp_105.all (sm_okR 105) = true := by decide +kernel
theorem sk_106 : sp_106.all (sm_okR 106) = true := by decide +kernel

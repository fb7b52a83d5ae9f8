/-! THE PROGRAM: each row holds. -/
theorem sk_127 : sp_127.all (sm_okR 127) = true := by decide +kernel
theorem sk_128 : sp_128.all (sm_okR 128) = true := by decide +kernel
theorem sk_129 : sp_129.all (sm_okR 129) = true := by decide +kernel
theorem sk_130 : sp_130.all (sm_okR 130) = true := by decide +kernel
theorem sk_131 : sp_131.all (sm_okR 131) = true := by decide +kernel
theorem sk_132 : sp_132.all (sm_okR 132) = true := by decide +kernel
theorem sk_133 : sp_133.all (sm_okR 133) = true := by decide +kernel
theorem sk_134 : sp_134.all (sm_okR 134) = true := by decide +kernel
theorem sk_135 : sp_135.all (sm_okR 135) = true := by decide +kernel
theorem sk_136 : sp_136.all (sm_okR 136) = true := by decide +kernel
theorem sk_137 : sp_137.all (sm_okR 137) = true := by decide +kernel
theorem sk_138 : sp_138.all (sm_okR 138) = true := by decide +kernel
theorem sk_139 : sp_139.all (sm_okR 139) = true := by decide +kernel
theorem sk_140 : sp_140.all (sm_okR 140) = true := by decide +kernel

/-! THE PROGRAM: each row holds. -/
theorem sk_170_1 : ((sp_170).drop 184).all (sm_okR 170) = true := by decide +kernel
theorem sk_170 : sp_170.all (sm_okR 170) = true := sm_allC 184 sk_170_0 (sk_170_1)
theorem sk_171 : sp_171.all (sm_okR 171) = true := by decide +kernel
theorem sk_172 : sp_172.all (sm_okR 172) = true := by decide +kernel
theorem sk_173 : sp_173.all (sm_okR 173) = true := by decide +kernel
theorem sk_174 : sp_174.all (sm_okR 174) = true := by decide +kernel
theorem sk_175 : sp_175.all (sm_okR 175) = true := by decide +kernel
theorem sk_176 : sp_176.all (sm_okR 176) = true := by decide +kernel
theorem sk_177 : sp_177.all (sm_okR 177) = true := by decide +kernel
theorem sk_178 : sp_178.all (sm_okR 178) = true := by decide +kernel
theorem sk_179 : sp_179.all (sm_okR 179) = true := by decide +kernel
theorem sk_180 : sp_180.all (sm_okR 180) = true := by decide +kernel
theorem sk_181 : sp_181.all (sm_okR 181) = true := by decide +kernel

/-! THE PROGRAM: each row holds. -/
theorem sk_161 : sp_161.all (sm_okR 161) = true := by decide +kernel
theorem sk_162 : sp_162.all (sm_okR 162) = true := by decide +kernel
theorem sk_163 : sp_163.all (sm_okR 163) = true := by decide +kernel
theorem sk_164 : sp_164.all (sm_okR 164) = true := by decide +kernel
theorem sk_165 : sp_165.all (sm_okR 165) = true := by decide +kernel
theorem sk_166 : sp_166.all (sm_okR 166) = true := by decide +kernel
theorem sk_167 : sp_167.all (sm_okR 167) = true := by decide +kernel
theorem sk_168_0 : ((sp_168).take 51).all (sm_okR 168) = true := by decide +kernel
theorem sk_168_1 : (((sp_168).drop 51).take 51).all (sm_okR 168) = true := by decide +kernel
theorem sk_168_2 : ((((sp_168).drop 51).drop 51).take 51).all (sm_okR 168) = true := by decide +kernel

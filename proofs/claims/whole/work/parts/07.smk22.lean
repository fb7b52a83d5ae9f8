/-! THE PROGRAM: each row holds. -/
theorem sk_199 : sp_199.all (sm_okR 199) = true := by decide +kernel
theorem sk_200 : sp_200.all (sm_okR 200) = true := by decide +kernel
theorem sk_201 : sp_201.all (sm_okR 201) = true := by decide +kernel
theorem sk_202 : sp_202.all (sm_okR 202) = true := by decide +kernel
theorem sk_203 : sp_203.all (sm_okR 203) = true := by decide +kernel
theorem sk_204 : sp_204.all (sm_okR 204) = true := by decide +kernel
theorem sk_205_0 : ((sp_205).take 129).all (sm_okR 205) = true := by decide +kernel
theorem sk_205_1 : ((sp_205).drop 129).all (sm_okR 205) = true := by decide +kernel
theorem sk_205 : sp_205.all (sm_okR 205) = true := sm_allC 129 sk_205_0 (sk_205_1)

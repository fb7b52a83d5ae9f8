/-! THE PROGRAM: each row holds. -/
theorem sk_34 : sp_34.all (sm_okR 34) = true := by decide +kernel
theorem sk_35 : sp_35.all (sm_okR 35) = true := by decide +kernel
theorem sk_36 : sp_36.all (sm_okR 36) = true := by decide +kernel
theorem sk_37 : sp_37.all (sm_okR 37) = true := by decide +kernel
theorem sk_38 : sp_38.all (sm_okR 38) = true := by decide +kernel
theorem sk_39 : sp_39.all (sm_okR 39) = true := by decide +kernel
theorem sk_40 : sp_40.all (sm_okR 40) = true := by decide +kernel
theorem sk_41 : sp_41.all (sm_okR 41) = true := by decide +kernel
theorem sk_42 : sp_42.all (sm_okR 42) = true := by decide +kernel
theorem sk_43 : sp_43.all (sm_okR 43) = true := by decide +kernel
theorem sk_44 : sp_44.all (sm_okR 44) = true := by decide +kernel
theorem sk_45 : sp_45.all (sm_okR 45) = true := by decide +kernel
theorem sk_46 : sp_46.all (sm_okR 46) = true := by decide +kernel
theorem sk_47 : sp_47.all (sm_okR 47) = true := by decide +kernel
theorem sk_48 : sp_48.all (sm_okR 48) = true := by decide +kernel
theorem sk_49 : sp_49.all (sm_okR 49) = true := by decide +kernel
theorem sk_50 : sp_50.all (sm_okR 50) = true := by decide +kernel
theorem sk_51 : sp_51.all (sm_okR 51) = true := by decide +kernel
theorem sk_52 : sp_52.all (sm_okR 52) = true := by decide +kernel
theorem sk_53 : sp_53.all (sm_okR 53) = true := by decide +kernel
theorem sk_54 : sp_54.all (sm_okR 54) = true := by decide +kernel
theorem sk_55 : sp_55.all (sm_okR 55) = true := by decide +kernel
theorem sk_56_0 : ((sp_56).take 25).all (sm_okR 56) = true := by decide +kernel

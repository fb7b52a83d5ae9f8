/-! METHODS by their segments. -/
-- 225 LineSetterLaw.law([I)Z
theorem t225 : sP 225 = (8, sp_225, sh_225) := rfl
theorem sr225 : sm_srt sp_225 = true := by decide +kernel
set_option maxRecDepth 20000 in
theorem g225_1 {M : sm_M} {x4 : Int32} {K : Int32 → sm_M → Prop} (hS : SH M)  (h : ((((Int32.ofNat (sm_ln M 0)) - (6 : Int32)) < x4 → K (1 : Int32) M) ∧ (¬ ((Int32.ofNat (sm_ln M 0)) - (6 : Int32)) < x4 → (vp_in x4 (sm_ln M 0)) ∧ ((((iV M 0 x4.toNatClampNeg) &&& (31 : Int32)) = 0 → (vp_in (x4 + (1 : Int32)) (sm_ln M 0)) ∧ (vp_in (x4 + (2 : Int32)) (sm_ln M 0)) ∧ (vp_in (x4 + (3 : Int32)) (sm_ln M 0)) ∧ (vp_in (x4 + (4 : Int32)) (sm_ln M 0)) ∧ (vp_in (x4 + (5 : Int32)) (sm_ln M 0)) ∧ sm_cI 17 [.ref 23, .int (iV M 0 (x4 + (1 : Int32)).toNatClampNeg), .int (iV M 0 (x4 + (2 : Int32)).toNatClampNeg), .int (iV M 0 (x4 + (3 : Int32)).toNatClampNeg), .int (iV M 0 (x4 + (4 : Int32)).toNatClampNeg), .int (iV M 0 (x4 + (5 : Int32)).toNatClampNeg), .ref 164] M (fun v8 M7 => SH M7 ∧ (vp_in (x4 + (1 : Int32)) (sm_ln M7 0)) ∧ (vp_in (x4 + (2 : Int32)) (sm_ln M7 0)) ∧ (vp_in (x4 + (3 : Int32)) (sm_ln M7 0)) ∧ (vp_in (x4 + (4 : Int32)) (sm_ln M7 0)) ∧ (vp_in (x4 + (5 : Int32)) (sm_ln M7 0)) ∧ sm_cI 162 [.ref 116, .int (iV M7 0 (x4 + (1 : Int32)).toNatClampNeg), .int (iV M7 0 (x4 + (2 : Int32)).toNatClampNeg), .int (iV M7 0 (x4 + (3 : Int32)).toNatClampNeg), .int (iV M7 0 (x4 + (4 : Int32)).toNatClampNeg), .int (iV M7 0 (x4 + (5 : Int32)).toNatClampNeg)] M7 (fun v16 M15 => SH M15 → (((p161_0 M15) = v8 → ((v8 = 0 → (vp_in (0 : Int32) 1) ∧ (((jV M15 164 (0 : Int32).toNatClampNeg) = v16.toInt64 → sm_w 225 (1127, [some (.ref 0), some (.ref 23), some (.ref 116), some (.ref 164), some (.int (x4)), none, none, none], []) M15 (rI K)) ∧ (¬ (jV M15 164 (0 : Int32).toNatClampNeg) = v16.toInt64 → K (0 : Int32) M15))) ∧ (¬ v8 = 0 → sm_w 225 (1127, [some (.ref 0), some (.ref 23), some (.ref 116), some (.ref 164), some (.int (x4)), none, none, none], []) M15 (rI K)))) ∧ (¬ (p161_0 M15) = v8 → K (0 : Int32) M15))))) ∧ (((iV M 0 x4.toNatClampNeg) &&& (31 : Int32)) = 1 → (vp_in (x4 + (1 : Int32)) (sm_ln M 0)) ∧ sm_cI 21 [.ref 23, .int (iV M 0 (x4 + (1 : Int32)).toNatClampNeg), .ref 164] M (fun v21 M20 => SH M20 ∧ (vp_in (x4 + (1 : Int32)) (sm_ln M20 0)) ∧ sm_cI 165 [.ref 116, .int (iV M20 0 (x4 + (1 : Int32)).toNatClampNeg)] M20 (fun v25 M24 => SH M24 → (((p161_0 M24) = v21 → ((v21 = 0 → (vp_in (0 : Int32) 1) ∧ (((jV M24 164 (0 : Int32).toNatClampNeg) = v25.toInt64 → sm_w 225 (1127, [some (.ref 0), some (.ref 23), some (.ref 116), some (.ref 164), some (.int (x4)), none, none, none], []) M24 (rI K)) ∧ (¬ (jV M24 164 (0 : Int32).toNatClampNeg) = v25.toInt64 → K (0 : Int32) M24))) ∧ (¬ v21 = 0 → sm_w 225 (1127, [some (.ref 0), some (.ref 23), some (.ref 116), some (.ref 164), some (.int (x4)), none, none, none], []) M24 (rI K)))) ∧ (¬ (p161_0 M24) = v21 → K (0 : Int32) M24))))) ∧ (((iV M 0 x4.toNatClampNeg) &&& (31 : Int32)) = 2 → sm_cI 23 [.ref 23, .ref 164] M (fun v29 M28 => SH M28 ∧ sm_cI 168 [.ref 116] M28 (fun v32 M31 => SH M31 → (((p161_0 M31) = v29 → ((v29 = 0 → (vp_in (0 : Int32) 1) ∧ (((jV M31 164 (0 : Int32).toNatClampNeg) = v32.toInt64 → sm_w 225 (1127, [some (.ref 0), some (.ref 23), some (.ref 116), some (.ref 164), some (.int (x4)), none, none, none], []) M31 (rI K)) ∧ (¬ (jV M31 164 (0 : Int32).toNatClampNeg) = v32.toInt64 → K (0 : Int32) M31))) ∧ (¬ v29 = 0 → sm_w 225 (1127, [some (.ref 0), some (.ref 23), some (.ref 116), some (.ref 164), some (.int (x4)), none, none, none], []) M31 (rI K)))) ∧ (¬ (p161_0 M31) = v29 → K (0 : Int32) M31))))) ∧ (((iV M 0 x4.toNatClampNeg) &&& (31 : Int32)) = 3 → sm_cI 55 [.ref 23, .ref 164] M (fun v36 M35 => SH M35 ∧ sm_cI 182 [.ref 116] M35 (fun v39 M38 => SH M38 → (((p161_0 M38) = v36 → ((v36 = 0 → (vp_in (0 : Int32) 1) ∧ (((jV M38 164 (0 : Int32).toNatClampNeg) = v39.toInt64 → sm_w 225 (1127, [some (.ref 0), some (.ref 23), some (.ref 116), some (.ref 164), some (.int (x4)), none, none, none], []) M38 (rI K)) ∧ (¬ (jV M38 164 (0 : Int32).toNatClampNeg) = v39.toInt64 → K (0 : Int32) M38))) ∧ (¬ v36 = 0 → sm_w 225 (1127, [some (.ref 0), some (.ref 23), some (.ref 116), some (.ref 164), some (.int (x4)), none, none, none], []) M38 (rI K)))) ∧ (¬ (p161_0 M38) = v36 → K (0 : Int32) M38))))) ∧ (((iV M 0 x4.toNatClampNeg) &&& (31 : Int32)) = 4 → ∀ M45, SH M45 → M45 = sm_wI M 116 0 (0 : Int32) → (((p14_0 M) = (iV M45 116 7) → sm_w 225 (1127, [some (.ref 0), some (.ref 23), some (.ref 116), some (.ref 164), some (.int (x4)), none, none, none], []) M45 (rI K)) ∧ (¬ (p14_0 M) = (iV M45 116 7) → K (0 : Int32) M45))) ∧ (((iV M 0 x4.toNatClampNeg) &&& (31 : Int32)) = 5 → (vp_in (x4 + (1 : Int32)) (sm_ln M 0)) ∧ sm_cI 76 [.ref 23, .int (iV M 0 (x4 + (1 : Int32)).toNatClampNeg), .ref 164] M (fun v49 M48 => SH M48 ∧ (vp_in (x4 + (1 : Int32)) (sm_ln M48 0)) ∧ sm_cI 190 [.ref 116, .int (iV M48 0 (x4 + (1 : Int32)).toNatClampNeg)] M48 (fun v53 M52 => SH M52 → (((p161_0 M52) = v49 → ((v49 = 0 → (vp_in (0 : Int32) 1) ∧ (((jV M52 164 (0 : Int32).toNatClampNeg) = v53.toInt64 → sm_w 225 (1127, [some (.ref 0), some (.ref 23), some (.ref 116), some (.ref 164), some (.int (x4)), none, none, none], []) M52 (rI K)) ∧ (¬ (jV M52 164 (0 : Int32).toNatClampNeg) = v53.toInt64 → K (0 : Int32) M52))) ∧ (¬ v49 = 0 → sm_w 225 (1127, [some (.ref 0), some (.ref 23), some (.ref 116), some (.ref 164), some (.int (x4)), none, none, none], []) M52 (rI K)))) ∧ (¬ (p161_0 M52) = v49 → K (0 : Int32) M52))))) ∧ (((iV M 0 x4.toNatClampNeg) &&& (31 : Int32)) = 6 → sm_cI 15 [.ref 23] M (fun v57 M56 => SH M56 → ∀ M62, SH M62 → M62 = sm_wI M56 116 0 (0 : Int32) → ∀ M64, SH M64 → M64 = sm_wI M62 116 56 (0 : Int32) → ∀ M66, SH M66 → M66 = sm_wI M64 116 57 (0 : Int32) → ((v57 = (iV M62 116 56) → sm_w 225 (1127, [some (.ref 0), some (.ref 23), some (.ref 116), some (.ref 164), some (.int (x4)), none, none, none], []) M66 (rI K)) ∧ (¬ v57 = (iV M62 116 56) → K (0 : Int32) M66)))) ∧ (((iV M 0 x4.toNatClampNeg) &&& (31 : Int32)) = 7 → (vp_in (x4 + (1 : Int32)) (sm_ln M 0)) ∧ (vp_in (x4 + (2 : Int32)) (sm_ln M 0)) ∧ (vp_in (x4 + (3 : Int32)) (sm_ln M 0)) ∧ (vp_in (x4 + (4 : Int32)) (sm_ln M 0)) ∧ (vp_in (x4 + (5 : Int32)) (sm_ln M 0)) ∧ sm_cI 85 [.ref 23, .int (iV M 0 (x4 + (1 : Int32)).toNatClampNeg), .int (iV M 0 (x4 + (2 : Int32)).toNatClampNeg), .int (iV M 0 (x4 + (3 : Int32)).toNatClampNeg), .int (iV M 0 (x4 + (4 : Int32)).toNatClampNeg), .int (iV M 0 (x4 + (5 : Int32)).toNatClampNeg), .ref 164] M (fun v74 M73 => SH M73 ∧ (vp_in (x4 + (1 : Int32)) (sm_ln M73 0)) ∧ (vp_in (x4 + (2 : Int32)) (sm_ln M73 0)) ∧ (vp_in (x4 + (3 : Int32)) (sm_ln M73 0)) ∧ (vp_in (x4 + (4 : Int32)) (sm_ln M73 0)) ∧ (vp_in (x4 + (5 : Int32)) (sm_ln M73 0)) ∧ sm_cI 198 [.ref 116, .int (iV M73 0 (x4 + (1 : Int32)).toNatClampNeg), .int (iV M73 0 (x4 + (2 : Int32)).toNatClampNeg), .int (iV M73 0 (x4 + (3 : Int32)).toNatClampNeg), .int (iV M73 0 (x4 + (4 : Int32)).toNatClampNeg), .int (iV M73 0 (x4 + (5 : Int32)).toNatClampNeg)] M73 (fun v82 M81 => SH M81 → (((p161_0 M81) = v74 → ((v74 = 0 → (vp_in (0 : Int32) 1) ∧ (((jV M81 164 (0 : Int32).toNatClampNeg) = v82.toInt64 → sm_w 225 (1127, [some (.ref 0), some (.ref 23), some (.ref 116), some (.ref 164), some (.int (x4)), none, none, none], []) M81 (rI K)) ∧ (¬ (jV M81 164 (0 : Int32).toNatClampNeg) = v82.toInt64 → K (0 : Int32) M81))) ∧ (¬ v74 = 0 → sm_w 225 (1127, [some (.ref 0), some (.ref 23), some (.ref 116), some (.ref 164), some (.int (x4)), none, none, none], []) M81 (rI K)))) ∧ (¬ (p161_0 M81) = v74 → K (0 : Int32) M81))))) ∧ (((iV M 0 x4.toNatClampNeg) &&& (31 : Int32)) = 8 → (vp_in (x4 + (1 : Int32)) (sm_ln M 0)) ∧ sm_cI 128 [.ref 23, .int (iV M 0 (x4 + (1 : Int32)).toNatClampNeg), .ref 164] M (fun v87 M86 => SH M86 ∧ (vp_in (x4 + (1 : Int32)) (sm_ln M86 0)) ∧ sm_cJ 214 [.ref 116, .int (iV M86 0 (x4 + (1 : Int32)).toNatClampNeg)] M86 (fun v91 M90 => SH M90 → (((p161_0 M90) = v87 → ((v87 = 0 → (vp_in (0 : Int32) 1) ∧ (((jV M90 164 (0 : Int32).toNatClampNeg) = v91 → sm_w 225 (1127, [some (.ref 0), some (.ref 23), some (.ref 116), some (.ref 164), some (.int (x4)), none, none, none], []) M90 (rI K)) ∧ (¬ (jV M90 164 (0 : Int32).toNatClampNeg) = v91 → K (0 : Int32) M90))) ∧ (¬ v87 = 0 → sm_w 225 (1127, [some (.ref 0), some (.ref 23), some (.ref 116), some (.ref 164), some (.int (x4)), none, none, none], []) M90 (rI K)))) ∧ (¬ (p161_0 M90) = v87 → K (0 : Int32) M90))))) ∧ (((iV M 0 x4.toNatClampNeg) &&& (31 : Int32)) = 9 → (vp_in (x4 + (1 : Int32)) (sm_ln M 0)) ∧ (vp_in (x4 + (2 : Int32)) (sm_ln M 0)) ∧ sm_cI 131 [.ref 23, .int (iV M 0 (x4 + (1 : Int32)).toNatClampNeg), .int (iV M 0 (x4 + (2 : Int32)).toNatClampNeg), .ref 164] M (fun v97 M96 => SH M96 ∧ (vp_in (x4 + (1 : Int32)) (sm_ln M96 0)) ∧ (vp_in (x4 + (2 : Int32)) (sm_ln M96 0)) ∧ sm_cJ 215 [.ref 116, .int (iV M96 0 (x4 + (1 : Int32)).toNatClampNeg), .int (iV M96 0 (x4 + (2 : Int32)).toNatClampNeg)] M96 (fun v102 M101 => SH M101 → (((p161_0 M101) = v97 → ((v97 = 0 → (vp_in (0 : Int32) 1) ∧ (((jV M101 164 (0 : Int32).toNatClampNeg) = v102 → sm_w 225 (1127, [some (.ref 0), some (.ref 23), some (.ref 116), some (.ref 164), some (.int (x4)), none, none, none], []) M101 (rI K)) ∧ (¬ (jV M101 164 (0 : Int32).toNatClampNeg) = v102 → K (0 : Int32) M101))) ∧ (¬ v97 = 0 → sm_w 225 (1127, [some (.ref 0), some (.ref 23), some (.ref 116), some (.ref 164), some (.int (x4)), none, none, none], []) M101 (rI K)))) ∧ (¬ (p161_0 M101) = v97 → K (0 : Int32) M101))))) ∧ (((iV M 0 x4.toNatClampNeg) &&& (31 : Int32)) = 10 → (vp_in (x4 + (1 : Int32)) (sm_ln M 0)) ∧ (vp_in (x4 + (2 : Int32)) (sm_ln M 0)) ∧ sm_cI 133 [.ref 23, .int (iV M 0 (x4 + (1 : Int32)).toNatClampNeg), .int (iV M 0 (x4 + (2 : Int32)).toNatClampNeg), .ref 164] M (fun v108 M107 => SH M107 ∧ (vp_in (x4 + (1 : Int32)) (sm_ln M107 0)) ∧ (vp_in (x4 + (2 : Int32)) (sm_ln M107 0)) ∧ sm_cJ 216 [.ref 116, .int (iV M107 0 (x4 + (1 : Int32)).toNatClampNeg), .int (iV M107 0 (x4 + (2 : Int32)).toNatClampNeg)] M107 (fun v113 M112 => SH M112 → (((p161_0 M112) = v108 → ((v108 = 0 → (vp_in (0 : Int32) 1) ∧ (((jV M112 164 (0 : Int32).toNatClampNeg) = v113 → sm_w 225 (1127, [some (.ref 0), some (.ref 23), some (.ref 116), some (.ref 164), some (.int (x4)), none, none, none], []) M112 (rI K)) ∧ (¬ (jV M112 164 (0 : Int32).toNatClampNeg) = v113 → K (0 : Int32) M112))) ∧ (¬ v108 = 0 → sm_w 225 (1127, [some (.ref 0), some (.ref 23), some (.ref 116), some (.ref 164), some (.int (x4)), none, none, none], []) M112 (rI K)))) ∧ (¬ (p161_0 M112) = v108 → K (0 : Int32) M112))))) ∧ (((iV M 0 x4.toNatClampNeg) &&& (31 : Int32)) = 11 → (vp_in (x4 + (1 : Int32)) (sm_ln M 0)) ∧ (vp_in (x4 + (2 : Int32)) (sm_ln M 0)) ∧ sm_cI 138 [.ref 23, .int (iV M 0 (x4 + (1 : Int32)).toNatClampNeg), .int (iV M 0 (x4 + (2 : Int32)).toNatClampNeg), .ref 164] M (fun v119 M118 => SH M118 ∧ (vp_in (x4 + (1 : Int32)) (sm_ln M118 0)) ∧ (vp_in (x4 + (2 : Int32)) (sm_ln M118 0)) ∧ sm_cJ 219 [.ref 116, .int (iV M118 0 (x4 + (1 : Int32)).toNatClampNeg), .int (iV M118 0 (x4 + (2 : Int32)).toNatClampNeg)] M118 (fun v124 M123 => SH M123 → (((p161_0 M123) = v119 → ((v119 = 0 → (vp_in (0 : Int32) 1) ∧ (((jV M123 164 (0 : Int32).toNatClampNeg) = v124 → sm_w 225 (1127, [some (.ref 0), some (.ref 23), some (.ref 116), some (.ref 164), some (.int (x4)), none, none, none], []) M123 (rI K)) ∧ (¬ (jV M123 164 (0 : Int32).toNatClampNeg) = v124 → K (0 : Int32) M123))) ∧ (¬ v119 = 0 → sm_w 225 (1127, [some (.ref 0), some (.ref 23), some (.ref 116), some (.ref 164), some (.int (x4)), none, none, none], []) M123 (rI K)))) ∧ (¬ (p161_0 M123) = v119 → K (0 : Int32) M123))))) ∧ (((iV M 0 x4.toNatClampNeg) &&& (31 : Int32)) = 12 → (vp_in (x4 + (1 : Int32)) (sm_ln M 0)) ∧ sm_cI 143 [.ref 23, .int (iV M 0 (x4 + (1 : Int32)).toNatClampNeg), .ref 164] M (fun v129 M128 => SH M128 ∧ (vp_in (x4 + (1 : Int32)) (sm_ln M128 0)) ∧ sm_cI 220 [.ref 116, .int (iV M128 0 (x4 + (1 : Int32)).toNatClampNeg)] M128 (fun v133 M132 => SH M132 → (((p161_0 M132) = v129 → ((v129 = 0 → (vp_in (0 : Int32) 1) ∧ (((jV M132 164 (0 : Int32).toNatClampNeg) = v133.toInt64 → sm_w 225 (1127, [some (.ref 0), some (.ref 23), some (.ref 116), some (.ref 164), some (.int (x4)), none, none, none], []) M132 (rI K)) ∧ (¬ (jV M132 164 (0 : Int32).toNatClampNeg) = v133.toInt64 → K (0 : Int32) M132))) ∧ (¬ v129 = 0 → sm_w 225 (1127, [some (.ref 0), some (.ref 23), some (.ref 116), some (.ref 164), some (.int (x4)), none, none, none], []) M132 (rI K)))) ∧ (¬ (p161_0 M132) = v129 → K (0 : Int32) M132))))) ∧ (((iV M 0 x4.toNatClampNeg) &&& (31 : Int32)) = 13 → sm_cI 146 [.ref 23, .ref 164] M (fun v137 M136 => SH M136 ∧ sm_cJ 221 [.ref 116] M136 (fun v140 M139 => SH M139 → (((p161_0 M139) = v137 → ((v137 = 0 → (vp_in (0 : Int32) 1) ∧ (((jV M139 164 (0 : Int32).toNatClampNeg) = v140 → sm_w 225 (1127, [some (.ref 0), some (.ref 23), some (.ref 116), some (.ref 164), some (.int (x4)), none, none, none], []) M139 (rI K)) ∧ (¬ (jV M139 164 (0 : Int32).toNatClampNeg) = v140 → K (0 : Int32) M139))) ∧ (¬ v137 = 0 → sm_w 225 (1127, [some (.ref 0), some (.ref 23), some (.ref 116), some (.ref 164), some (.int (x4)), none, none, none], []) M139 (rI K)))) ∧ (¬ (p161_0 M139) = v137 → K (0 : Int32) M139))))) ∧ (((iV M 0 x4.toNatClampNeg) &&& (31 : Int32)) = 14 → sm_cI 151 [.ref 23, .ref 164] M (fun v144 M143 => SH M143 ∧ sm_cI 222 [.ref 116] M143 (fun v147 M146 => SH M146 → (((p161_0 M146) = v144 → ((v144 = 0 → (vp_in (0 : Int32) 1) ∧ (((jV M146 164 (0 : Int32).toNatClampNeg) = v147.toInt64 → sm_w 225 (1127, [some (.ref 0), some (.ref 23), some (.ref 116), some (.ref 164), some (.int (x4)), none, none, none], []) M146 (rI K)) ∧ (¬ (jV M146 164 (0 : Int32).toNatClampNeg) = v147.toInt64 → K (0 : Int32) M146))) ∧ (¬ v144 = 0 → sm_w 225 (1127, [some (.ref 0), some (.ref 23), some (.ref 116), some (.ref 164), some (.int (x4)), none, none, none], []) M146 (rI K)))) ∧ (¬ (p161_0 M146) = v144 → K (0 : Int32) M146))))) ∧ (((iV M 0 x4.toNatClampNeg) &&& (31 : Int32)) = 15 → (vp_in (x4 + (1 : Int32)) (sm_ln M 0)) ∧ sm_cI 154 [.ref 23, .int (iV M 0 (x4 + (1 : Int32)).toNatClampNeg), .ref 164] M (fun v152 M151 => SH M151 ∧ (vp_in (x4 + (1 : Int32)) (sm_ln M151 0)) ∧ sm_cJ 193 [.ref 116, .int (iV M151 0 (x4 + (1 : Int32)).toNatClampNeg)] M151 (fun v156 M155 => SH M155 → (((p161_0 M155) = v152 → ((v152 = 0 → (vp_in (0 : Int32) 1) ∧ (((jV M155 164 (0 : Int32).toNatClampNeg) = v156 → sm_w 225 (1127, [some (.ref 0), some (.ref 23), some (.ref 116), some (.ref 164), some (.int (x4)), none, none, none], []) M155 (rI K)) ∧ (¬ (jV M155 164 (0 : Int32).toNatClampNeg) = v156 → K (0 : Int32) M155))) ∧ (¬ v152 = 0 → sm_w 225 (1127, [some (.ref 0), some (.ref 23), some (.ref 116), some (.ref 164), some (.int (x4)), none, none, none], []) M155 (rI K)))) ∧ (¬ (p161_0 M155) = v152 → K (0 : Int32) M155))))) ∧ (((iV M 0 x4.toNatClampNeg) &&& (31 : Int32)) = 16 → (vp_in (x4 + (1 : Int32)) (sm_ln M 0)) ∧ sm_cI 156 [.ref 23, .int (iV M 0 (x4 + (1 : Int32)).toNatClampNeg), .ref 164] M (fun v161 M160 => SH M160 ∧ (vp_in (x4 + (1 : Int32)) (sm_ln M160 0)) ∧ sm_cJ 223 [.ref 116, .int (iV M160 0 (x4 + (1 : Int32)).toNatClampNeg)] M160 (fun v165 M164 => SH M164 → (((p161_0 M164) = v161 → ((v161 = 0 → (vp_in (0 : Int32) 1) ∧ (((jV M164 164 (0 : Int32).toNatClampNeg) = v165 → sm_w 225 (1127, [some (.ref 0), some (.ref 23), some (.ref 116), some (.ref 164), some (.int (x4)), none, none, none], []) M164 (rI K)) ∧ (¬ (jV M164 164 (0 : Int32).toNatClampNeg) = v165 → K (0 : Int32) M164))) ∧ (¬ v161 = 0 → sm_w 225 (1127, [some (.ref 0), some (.ref 23), some (.ref 116), some (.ref 164), some (.int (x4)), none, none, none], []) M164 (rI K)))) ∧ (¬ (p161_0 M164) = v161 → K (0 : Int32) M164))))) ∧ (((iV M 0 x4.toNatClampNeg) &&& (31 : Int32)) = 17 → (vp_in (x4 + (1 : Int32)) (sm_ln M 0)) ∧ sm_cI 158 [.ref 23, .int (iV M 0 (x4 + (1 : Int32)).toNatClampNeg), .ref 164] M (fun v170 M169 => SH M169 ∧ (vp_in (x4 + (1 : Int32)) (sm_ln M169 0)) ∧ sm_cI 224 [.ref 116, .int (iV M169 0 (x4 + (1 : Int32)).toNatClampNeg)] M169 (fun v174 M173 => SH M173 → (((p161_0 M173) = v170 → ((v170 = 0 → (vp_in (0 : Int32) 1) ∧ (((jV M173 164 (0 : Int32).toNatClampNeg) = v174.toInt64 → sm_w 225 (1127, [some (.ref 0), some (.ref 23), some (.ref 116), some (.ref 164), some (.int (x4)), none, none, none], []) M173 (rI K)) ∧ (¬ (jV M173 164 (0 : Int32).toNatClampNeg) = v174.toInt64 → K (0 : Int32) M173))) ∧ (¬ v170 = 0 → sm_w 225 (1127, [some (.ref 0), some (.ref 23), some (.ref 116), some (.ref 164), some (.int (x4)), none, none, none], []) M173 (rI K)))) ∧ (¬ (p161_0 M173) = v170 → K (0 : Int32) M173))))) ∧ ((((iV M 0 x4.toNatClampNeg) &&& (31 : Int32)) < 0 ∨ 17 < ((iV M 0 x4.toNatClampNeg) &&& (31 : Int32))) → sm_w 225 (1127, [some (.ref 0), some (.ref 23), some (.ref 116), some (.ref 164), some (.int (x4)), none, none, none], []) M (rI K)))))) : sm_w 225 (23, [some (.ref 0), some (.ref 23), some (.ref 116), some (.ref 164), some (.int (x4)), none, none, none], []) M (rI K) := by
  refine sm_w.run t225 sr225 13 6 (M2 := M) (f2 := (if ((Int32.ofNat (sm_ln M 0)) - (6 : Int32)) < x4 then 1133 else 33, [some (.ref 0), some (.ref 23), some (.ref 116), some (.ref 164), some (.int (x4)), none, none, none], [])) rfl ⟨trivial, trivial, (k0 hS), trivial, trivial, trivial, trivial⟩ ?_
  refine sm_w.ite (fun hc => ?_) (fun hc => ?_)
  · have h := h.1 hc
    refine sm_w.run t225 sr225 664 1 (M2 := M) (f2 := (1134, [some (.ref 0), some (.ref 23), some (.ref 116), some (.ref 164), some (.int (x4)), none, none, none], [.int ((1 : Int32))])) rfl ⟨trivial, trivial⟩ ?_
    exact sm_w.end t225 sr225 665 (o := .returned (some (.int ((1 : Int32))))) (M2 := M) rfl rfl (by decide) (⟨_, rfl, h⟩)
  · have h := h.2 hc
    obtain ⟨c1, h⟩ := h
    refine sm_w.run t225 sr225 19 5 (M2 := M) (f2 := (40, [some (.ref 0), some (.ref 23), some (.ref 116), some (.ref 164), some (.int (x4)), none, none, none], [.int ((iV M 0 x4.toNatClampNeg) &&& (31 : Int32))])) rfl ⟨trivial, trivial, (k0a hS c1), trivial, trivial, trivial⟩ ?_
    refine sm_w.tsw t225 sr225 24 17 (x := (iV M 0 x4.toNatClampNeg) &&& (31 : Int32)) (ls := [some (.ref 0), some (.ref 23), some (.ref 116), some (.ref 164), some (.int (x4)), none, none, none]) (st := []) rfl ⟨rfl, rfl, by decide⟩ (fun hc => ?_) (fun i hi hc => ?_)
    · have h := h.2.2.2.2.2.2.2.2.2.2.2.2.2.2.2.2.2.2 hc
      exact h
    · match i, hi, hc with
      | 0, _, hc =>
        have h := h.1 hc
        obtain ⟨c2, c3, c4, c5, c6, h⟩ := h
        refine sm_w.run t225 sr225 25 27 (M2 := M) (f2 := (160, [some (.ref 0), some (.ref 23), some (.ref 116), some (.ref 164), some (.int (x4)), none, none, none], [.ref 164, .int (iV M 0 (x4 + (5 : Int32)).toNatClampNeg), .int (iV M 0 (x4 + (4 : Int32)).toNatClampNeg), .int (iV M 0 (x4 + (3 : Int32)).toNatClampNeg), .int (iV M 0 (x4 + (2 : Int32)).toNatClampNeg), .int (iV M 0 (x4 + (1 : Int32)).toNatClampNeg), .ref 23])) rfl ⟨trivial, trivial, trivial, trivial, trivial, (k0a hS c2), trivial, trivial, trivial, trivial, (k0a hS c3), trivial, trivial, trivial, trivial, (k0a hS c4), trivial, trivial, trivial, trivial, (k0a hS c5), trivial, trivial, trivial, trivial, (k0a hS c6), trivial, trivial⟩ ?_
        refine sm_w.cI t225 sr225 52 (i := 17) (as := [.ref 23, .int (iV M 0 (x4 + (1 : Int32)).toNatClampNeg), .int (iV M 0 (x4 + (2 : Int32)).toNatClampNeg), .int (iV M 0 (x4 + (3 : Int32)).toNatClampNeg), .int (iV M 0 (x4 + (4 : Int32)).toNatClampNeg), .int (iV M 0 (x4 + (5 : Int32)).toNatClampNeg), .ref 164]) (g := (160, [some (.ref 0), some (.ref 23), some (.ref 116), some (.ref 164), some (.int (x4)), none, none, none], [])) rfl ⟨(Nat.le_of_ble_eq_true rfl), (Nat.le_of_ble_eq_true rfl)⟩ (Nat.le_of_ble_eq_true rfl) (by decide) h (fun v8 M7 h => ?_)
        obtain ⟨hS9, h⟩ := h
        obtain ⟨c10, c11, c12, c13, c14, h⟩ := h
        refine sm_w.run t225 sr225 53 27 (M2 := M7) (f2 := (196, [some (.ref 0), some (.ref 23), some (.ref 116), some (.ref 164), some (.int (x4)), some (.int (v8)), none, none], [.int (iV M7 0 (x4 + (5 : Int32)).toNatClampNeg), .int (iV M7 0 (x4 + (4 : Int32)).toNatClampNeg), .int (iV M7 0 (x4 + (3 : Int32)).toNatClampNeg), .int (iV M7 0 (x4 + (2 : Int32)).toNatClampNeg), .int (iV M7 0 (x4 + (1 : Int32)).toNatClampNeg), .ref 116])) rfl ⟨(Nat.le_of_ble_eq_true rfl), trivial, trivial, trivial, trivial, trivial, (k0a hS9 c10), trivial, trivial, trivial, trivial, (k0a hS9 c11), trivial, trivial, trivial, trivial, (k0a hS9 c12), trivial, trivial, trivial, trivial, (k0a hS9 c13), trivial, trivial, trivial, trivial, (k0a hS9 c14), trivial⟩ ?_
        refine sm_w.cI t225 sr225 80 (i := 162) (as := [.ref 116, .int (iV M7 0 (x4 + (1 : Int32)).toNatClampNeg), .int (iV M7 0 (x4 + (2 : Int32)).toNatClampNeg), .int (iV M7 0 (x4 + (3 : Int32)).toNatClampNeg), .int (iV M7 0 (x4 + (4 : Int32)).toNatClampNeg), .int (iV M7 0 (x4 + (5 : Int32)).toNatClampNeg)]) (g := (196, [some (.ref 0), some (.ref 23), some (.ref 116), some (.ref 164), some (.int (x4)), some (.int (v8)), none, none], [])) rfl ⟨by decide, by decide, (Nat.le_of_ble_eq_true rfl), (sm_K.g (k_116 hS9) (sm_sh.rf _)).1, (sm_K.g (k_116 hS9) (sm_sh.rf _)).2, (Nat.le_of_ble_eq_true rfl)⟩ (Nat.le_of_ble_eq_true rfl) (by decide) (sm_cI.s (by decide) hS9 h) (fun v16 M15 h => ?_)
        obtain ⟨hS17, h⟩ := h
        refine sm_w.run t225 sr225 81 2 (M2 := M15) (f2 := (202, [some (.ref 0), some (.ref 23), some (.ref 116), some (.ref 164), some (.int (x4)), some (.int (v8)), some (.int (v16)), none], [.ref 116])) rfl ⟨(Nat.le_of_ble_eq_true rfl), trivial, trivial⟩ ?_
        refine sm_w.cI t225 sr225 83 (i := 161) (as := [.ref 116]) (g := (202, [some (.ref 0), some (.ref 23), some (.ref 116), some (.ref 164), some (.int (x4)), some (.int (v8)), some (.int (v16)), none], [])) rfl ⟨by decide, by decide, (Nat.le_of_ble_eq_true rfl), (sm_K.g (k_116 hS17) (sm_sh.rf _)).1, (sm_K.g (k_116 hS17) (sm_sh.rf _)).2, (Nat.le_of_ble_eq_true rfl)⟩ (Nat.le_of_ble_eq_true rfl) (by decide) (p161_c hS17) (fun vz M2 hz => ?_)
        obtain ⟨hz1, hz2⟩ := hz
        subst hz1
        have hz2 := hz2.symm
        subst hz2
        refine sm_w.run t225 sr225 84 2 (M2 := M15) (f2 := (if (p161_0 M15) = v8 then 212 else 210, [some (.ref 0), some (.ref 23), some (.ref 116), some (.ref 164), some (.int (x4)), some (.int (v8)), some (.int (v16)), none], [])) rfl ⟨trivial, trivial, trivial⟩ ?_
        refine sm_w.ite (fun hc => ?_) (fun hc => ?_)
        · have h := h.1 hc
          refine sm_w.run t225 sr225 88 2 (M2 := M15) (f2 := (if v8 = 0 then 217 else 229, [some (.ref 0), some (.ref 23), some (.ref 116), some (.ref 164), some (.int (x4)), some (.int (v8)), some (.int (v16)), none], [])) rfl ⟨trivial, trivial, trivial⟩ ?_
          refine sm_w.ite (fun hc => ?_) (fun hc => ?_)
          · have h := h.1 hc
            obtain ⟨c18, h⟩ := h
            refine sm_w.run t225 sr225 90 7 (M2 := M15) (f2 := (if (lg_cmp (jV M15 164 (0 : Int32).toNatClampNeg) v16.toInt64) = 0 then 229 else 227, [some (.ref 0), some (.ref 23), some (.ref 116), some (.ref 164), some (.int (x4)), some (.int (v8)), some (.int (v16)), none], [])) rfl ⟨trivial, trivial, sm_K.a2 (k_164 hS17) (l_164 hS17) c18, trivial, trivial, trivial, trivial, trivial⟩ ?_
            refine sm_w.ite (fun hc => ?_) (fun hc => ?_)
            · have h := h.1 (lc_e.mp hc)
              refine sm_w.run t225 sr225 99 1 (M2 := M15) (f2 := (1127, [some (.ref 0), some (.ref 23), some (.ref 116), some (.ref 164), some (.int (x4)), some (.int (v8)), some (.int (v16)), none], [])) rfl ⟨trivial, trivial⟩ ?_
              refine sm_w.weak (ls := [some (.ref 0), some (.ref 23), some (.ref 116), some (.ref 164), some (.int (x4)), none, none, none]) (sm_leI [true, true, true, true, true, false, false, false] rfl) ?_
              exact h
            · have h := h.2 (fun z => hc (lc_e.mpr z))
              refine sm_w.run t225 sr225 97 1 (M2 := M15) (f2 := (228, [some (.ref 0), some (.ref 23), some (.ref 116), some (.ref 164), some (.int (x4)), some (.int (v8)), some (.int (v16)), none], [.int ((0 : Int32))])) rfl ⟨trivial, trivial⟩ ?_
              exact sm_w.end t225 sr225 98 (o := .returned (some (.int ((0 : Int32))))) (M2 := M15) rfl rfl (by decide) (⟨_, rfl, h⟩)
          · have h := h.2 hc
            refine sm_w.run t225 sr225 99 1 (M2 := M15) (f2 := (1127, [some (.ref 0), some (.ref 23), some (.ref 116), some (.ref 164), some (.int (x4)), some (.int (v8)), some (.int (v16)), none], [])) rfl ⟨trivial, trivial⟩ ?_
            refine sm_w.weak (ls := [some (.ref 0), some (.ref 23), some (.ref 116), some (.ref 164), some (.int (x4)), none, none, none]) (sm_leI [true, true, true, true, true, false, false, false] rfl) ?_
            exact h
        · have h := h.2 hc
          refine sm_w.run t225 sr225 86 1 (M2 := M15) (f2 := (211, [some (.ref 0), some (.ref 23), some (.ref 116), some (.ref 164), some (.int (x4)), some (.int (v8)), some (.int (v16)), none], [.int ((0 : Int32))])) rfl ⟨trivial, trivial⟩ ?_
          exact sm_w.end t225 sr225 87 (o := .returned (some (.int ((0 : Int32))))) (M2 := M15) rfl rfl (by decide) (⟨_, rfl, h⟩)
      | 1, _, hc =>
        have h := h.2.1 hc
        obtain ⟨c19, h⟩ := h
        refine sm_w.run t225 sr225 100 7 (M2 := M) (f2 := (240, [some (.ref 0), some (.ref 23), some (.ref 116), some (.ref 164), some (.int (x4)), none, none, none], [.ref 164, .int (iV M 0 (x4 + (1 : Int32)).toNatClampNeg), .ref 23])) rfl ⟨trivial, trivial, trivial, trivial, trivial, (k0a hS c19), trivial, trivial⟩ ?_
        refine sm_w.cI t225 sr225 107 (i := 21) (as := [.ref 23, .int (iV M 0 (x4 + (1 : Int32)).toNatClampNeg), .ref 164]) (g := (240, [some (.ref 0), some (.ref 23), some (.ref 116), some (.ref 164), some (.int (x4)), none, none, none], [])) rfl ⟨(Nat.le_of_ble_eq_true rfl), (Nat.le_of_ble_eq_true rfl)⟩ (Nat.le_of_ble_eq_true rfl) (by decide) h (fun v21 M20 h => ?_)
        obtain ⟨hS22, h⟩ := h
        obtain ⟨c23, h⟩ := h
        refine sm_w.run t225 sr225 108 7 (M2 := M20) (f2 := (252, [some (.ref 0), some (.ref 23), some (.ref 116), some (.ref 164), some (.int (x4)), some (.int (v21)), none, none], [.int (iV M20 0 (x4 + (1 : Int32)).toNatClampNeg), .ref 116])) rfl ⟨(Nat.le_of_ble_eq_true rfl), trivial, trivial, trivial, trivial, trivial, (k0a hS22 c23), trivial⟩ ?_
        refine sm_w.cI t225 sr225 115 (i := 165) (as := [.ref 116, .int (iV M20 0 (x4 + (1 : Int32)).toNatClampNeg)]) (g := (252, [some (.ref 0), some (.ref 23), some (.ref 116), some (.ref 164), some (.int (x4)), some (.int (v21)), none, none], [])) rfl ⟨by decide, by decide, (Nat.le_of_ble_eq_true rfl), (sm_K.g (k_116 hS22) (sm_sh.rf _)).1, (sm_K.g (k_116 hS22) (sm_sh.rf _)).2, (Nat.le_of_ble_eq_true rfl)⟩ (Nat.le_of_ble_eq_true rfl) (by decide) (sm_cI.s (by decide) hS22 h) (fun v25 M24 h => ?_)
        obtain ⟨hS26, h⟩ := h
        refine sm_w.run t225 sr225 116 2 (M2 := M24) (f2 := (258, [some (.ref 0), some (.ref 23), some (.ref 116), some (.ref 164), some (.int (x4)), some (.int (v21)), some (.int (v25)), none], [.ref 116])) rfl ⟨(Nat.le_of_ble_eq_true rfl), trivial, trivial⟩ ?_
        refine sm_w.cI t225 sr225 118 (i := 161) (as := [.ref 116]) (g := (258, [some (.ref 0), some (.ref 23), some (.ref 116), some (.ref 164), some (.int (x4)), some (.int (v21)), some (.int (v25)), none], [])) rfl ⟨by decide, by decide, (Nat.le_of_ble_eq_true rfl), (sm_K.g (k_116 hS26) (sm_sh.rf _)).1, (sm_K.g (k_116 hS26) (sm_sh.rf _)).2, (Nat.le_of_ble_eq_true rfl)⟩ (Nat.le_of_ble_eq_true rfl) (by decide) (p161_c hS26) (fun vz M2 hz => ?_)
        obtain ⟨hz1, hz2⟩ := hz
        subst hz1
        have hz2 := hz2.symm
        subst hz2
        refine sm_w.run t225 sr225 119 2 (M2 := M24) (f2 := (if (p161_0 M24) = v21 then 268 else 266, [some (.ref 0), some (.ref 23), some (.ref 116), some (.ref 164), some (.int (x4)), some (.int (v21)), some (.int (v25)), none], [])) rfl ⟨trivial, trivial, trivial⟩ ?_
        refine sm_w.ite (fun hc => ?_) (fun hc => ?_)
        · have h := h.1 hc
          refine sm_w.run t225 sr225 123 2 (M2 := M24) (f2 := (if v21 = 0 then 273 else 285, [some (.ref 0), some (.ref 23), some (.ref 116), some (.ref 164), some (.int (x4)), some (.int (v21)), some (.int (v25)), none], [])) rfl ⟨trivial, trivial, trivial⟩ ?_
          refine sm_w.ite (fun hc => ?_) (fun hc => ?_)
          · have h := h.1 hc
            obtain ⟨c27, h⟩ := h
            refine sm_w.run t225 sr225 125 7 (M2 := M24) (f2 := (if (lg_cmp (jV M24 164 (0 : Int32).toNatClampNeg) v25.toInt64) = 0 then 285 else 283, [some (.ref 0), some (.ref 23), some (.ref 116), some (.ref 164), some (.int (x4)), some (.int (v21)), some (.int (v25)), none], [])) rfl ⟨trivial, trivial, sm_K.a2 (k_164 hS26) (l_164 hS26) c27, trivial, trivial, trivial, trivial, trivial⟩ ?_
            refine sm_w.ite (fun hc => ?_) (fun hc => ?_)
            · have h := h.1 (lc_e.mp hc)
              refine sm_w.run t225 sr225 134 1 (M2 := M24) (f2 := (1127, [some (.ref 0), some (.ref 23), some (.ref 116), some (.ref 164), some (.int (x4)), some (.int (v21)), some (.int (v25)), none], [])) rfl ⟨trivial, trivial⟩ ?_
              refine sm_w.weak (ls := [some (.ref 0), some (.ref 23), some (.ref 116), some (.ref 164), some (.int (x4)), none, none, none]) (sm_leI [true, true, true, true, true, false, false, false] rfl) ?_
              exact h
            · have h := h.2 (fun z => hc (lc_e.mpr z))
              refine sm_w.run t225 sr225 132 1 (M2 := M24) (f2 := (284, [some (.ref 0), some (.ref 23), some (.ref 116), some (.ref 164), some (.int (x4)), some (.int (v21)), some (.int (v25)), none], [.int ((0 : Int32))])) rfl ⟨trivial, trivial⟩ ?_
              exact sm_w.end t225 sr225 133 (o := .returned (some (.int ((0 : Int32))))) (M2 := M24) rfl rfl (by decide) (⟨_, rfl, h⟩)
          · have h := h.2 hc
            refine sm_w.run t225 sr225 134 1 (M2 := M24) (f2 := (1127, [some (.ref 0), some (.ref 23), some (.ref 116), some (.ref 164), some (.int (x4)), some (.int (v21)), some (.int (v25)), none], [])) rfl ⟨trivial, trivial⟩ ?_
            refine sm_w.weak (ls := [some (.ref 0), some (.ref 23), some (.ref 116), some (.ref 164), some (.int (x4)), none, none, none]) (sm_leI [true, true, true, true, true, false, false, false] rfl) ?_
            exact h
        · have h := h.2 hc
          refine sm_w.run t225 sr225 121 1 (M2 := M24) (f2 := (267, [some (.ref 0), some (.ref 23), some (.ref 116), some (.ref 164), some (.int (x4)), some (.int (v21)), some (.int (v25)), none], [.int ((0 : Int32))])) rfl ⟨trivial, trivial⟩ ?_
          exact sm_w.end t225 sr225 122 (o := .returned (some (.int ((0 : Int32))))) (M2 := M24) rfl rfl (by decide) (⟨_, rfl, h⟩)
      | 2, _, hc =>
        have h := h.2.2.1 hc
        refine sm_w.run t225 sr225 135 2 (M2 := M) (f2 := (290, [some (.ref 0), some (.ref 23), some (.ref 116), some (.ref 164), some (.int (x4)), none, none, none], [.ref 164, .ref 23])) rfl ⟨trivial, trivial, trivial⟩ ?_
        refine sm_w.cI t225 sr225 137 (i := 23) (as := [.ref 23, .ref 164]) (g := (290, [some (.ref 0), some (.ref 23), some (.ref 116), some (.ref 164), some (.int (x4)), none, none, none], [])) rfl ⟨(Nat.le_of_ble_eq_true rfl), (Nat.le_of_ble_eq_true rfl)⟩ (Nat.le_of_ble_eq_true rfl) (by decide) h (fun v29 M28 h => ?_)
        obtain ⟨hS30, h⟩ := h
        refine sm_w.run t225 sr225 138 2 (M2 := M28) (f2 := (296, [some (.ref 0), some (.ref 23), some (.ref 116), some (.ref 164), some (.int (x4)), some (.int (v29)), none, none], [.ref 116])) rfl ⟨(Nat.le_of_ble_eq_true rfl), trivial, trivial⟩ ?_
        refine sm_w.cI t225 sr225 140 (i := 168) (as := [.ref 116]) (g := (296, [some (.ref 0), some (.ref 23), some (.ref 116), some (.ref 164), some (.int (x4)), some (.int (v29)), none, none], [])) rfl ⟨by decide, by decide, (Nat.le_of_ble_eq_true rfl), (sm_K.g (k_116 hS30) (sm_sh.rf _)).1, (sm_K.g (k_116 hS30) (sm_sh.rf _)).2, (Nat.le_of_ble_eq_true rfl)⟩ (Nat.le_of_ble_eq_true rfl) (by decide) (sm_cI.s (by decide) hS30 h) (fun v32 M31 h => ?_)
        obtain ⟨hS33, h⟩ := h
        refine sm_w.run t225 sr225 141 2 (M2 := M31) (f2 := (302, [some (.ref 0), some (.ref 23), some (.ref 116), some (.ref 164), some (.int (x4)), some (.int (v29)), some (.int (v32)), none], [.ref 116])) rfl ⟨(Nat.le_of_ble_eq_true rfl), trivial, trivial⟩ ?_
        refine sm_w.cI t225 sr225 143 (i := 161) (as := [.ref 116]) (g := (302, [some (.ref 0), some (.ref 23), some (.ref 116), some (.ref 164), some (.int (x4)), some (.int (v29)), some (.int (v32)), none], [])) rfl ⟨by decide, by decide, (Nat.le_of_ble_eq_true rfl), (sm_K.g (k_116 hS33) (sm_sh.rf _)).1, (sm_K.g (k_116 hS33) (sm_sh.rf _)).2, (Nat.le_of_ble_eq_true rfl)⟩ (Nat.le_of_ble_eq_true rfl) (by decide) (p161_c hS33) (fun vz M2 hz => ?_)
        obtain ⟨hz1, hz2⟩ := hz
        subst hz1
        have hz2 := hz2.symm
        subst hz2
        refine sm_w.run t225 sr225 144 2 (M2 := M31) (f2 := (if (p161_0 M31) = v29 then 312 else 310, [some (.ref 0), some (.ref 23), some (.ref 116), some (.ref 164), some (.int (x4)), some (.int (v29)), some (.int (v32)), none], [])) rfl ⟨trivial, trivial, trivial⟩ ?_
        refine sm_w.ite (fun hc => ?_) (fun hc => ?_)
        · have h := h.1 hc
          refine sm_w.run t225 sr225 148 2 (M2 := M31) (f2 := (if v29 = 0 then 317 else 329, [some (.ref 0), some (.ref 23), some (.ref 116), some (.ref 164), some (.int (x4)), some (.int (v29)), some (.int (v32)), none], [])) rfl ⟨trivial, trivial, trivial⟩ ?_
          refine sm_w.ite (fun hc => ?_) (fun hc => ?_)
          · have h := h.1 hc
            obtain ⟨c34, h⟩ := h
            refine sm_w.run t225 sr225 150 7 (M2 := M31) (f2 := (if (lg_cmp (jV M31 164 (0 : Int32).toNatClampNeg) v32.toInt64) = 0 then 329 else 327, [some (.ref 0), some (.ref 23), some (.ref 116), some (.ref 164), some (.int (x4)), some (.int (v29)), some (.int (v32)), none], [])) rfl ⟨trivial, trivial, sm_K.a2 (k_164 hS33) (l_164 hS33) c34, trivial, trivial, trivial, trivial, trivial⟩ ?_
            refine sm_w.ite (fun hc => ?_) (fun hc => ?_)
            · have h := h.1 (lc_e.mp hc)
              refine sm_w.run t225 sr225 159 1 (M2 := M31) (f2 := (1127, [some (.ref 0), some (.ref 23), some (.ref 116), some (.ref 164), some (.int (x4)), some (.int (v29)), some (.int (v32)), none], [])) rfl ⟨trivial, trivial⟩ ?_
              refine sm_w.weak (ls := [some (.ref 0), some (.ref 23), some (.ref 116), some (.ref 164), some (.int (x4)), none, none, none]) (sm_leI [true, true, true, true, true, false, false, false] rfl) ?_
              exact h
            · have h := h.2 (fun z => hc (lc_e.mpr z))
              refine sm_w.run t225 sr225 157 1 (M2 := M31) (f2 := (328, [some (.ref 0), some (.ref 23), some (.ref 116), some (.ref 164), some (.int (x4)), some (.int (v29)), some (.int (v32)), none], [.int ((0 : Int32))])) rfl ⟨trivial, trivial⟩ ?_
              exact sm_w.end t225 sr225 158 (o := .returned (some (.int ((0 : Int32))))) (M2 := M31) rfl rfl (by decide) (⟨_, rfl, h⟩)
          · have h := h.2 hc
            refine sm_w.run t225 sr225 159 1 (M2 := M31) (f2 := (1127, [some (.ref 0), some (.ref 23), some (.ref 116), some (.ref 164), some (.int (x4)), some (.int (v29)), some (.int (v32)), none], [])) rfl ⟨trivial, trivial⟩ ?_
            refine sm_w.weak (ls := [some (.ref 0), some (.ref 23), some (.ref 116), some (.ref 164), some (.int (x4)), none, none, none]) (sm_leI [true, true, true, true, true, false, false, false] rfl) ?_
            exact h
        · have h := h.2 hc
          refine sm_w.run t225 sr225 146 1 (M2 := M31) (f2 := (311, [some (.ref 0), some (.ref 23), some (.ref 116), some (.ref 164), some (.int (x4)), some (.int (v29)), some (.int (v32)), none], [.int ((0 : Int32))])) rfl ⟨trivial, trivial⟩ ?_
          exact sm_w.end t225 sr225 147 (o := .returned (some (.int ((0 : Int32))))) (M2 := M31) rfl rfl (by decide) (⟨_, rfl, h⟩)
      | 3, _, hc =>
        have h := h.2.2.2.1 hc
        refine sm_w.run t225 sr225 160 2 (M2 := M) (f2 := (334, [some (.ref 0), some (.ref 23), some (.ref 116), some (.ref 164), some (.int (x4)), none, none, none], [.ref 164, .ref 23])) rfl ⟨trivial, trivial, trivial⟩ ?_
        refine sm_w.cI t225 sr225 162 (i := 55) (as := [.ref 23, .ref 164]) (g := (334, [some (.ref 0), some (.ref 23), some (.ref 116), some (.ref 164), some (.int (x4)), none, none, none], [])) rfl ⟨(Nat.le_of_ble_eq_true rfl), (Nat.le_of_ble_eq_true rfl)⟩ (Nat.le_of_ble_eq_true rfl) (by decide) h (fun v36 M35 h => ?_)
        obtain ⟨hS37, h⟩ := h
        refine sm_w.run t225 sr225 163 2 (M2 := M35) (f2 := (340, [some (.ref 0), some (.ref 23), some (.ref 116), some (.ref 164), some (.int (x4)), some (.int (v36)), none, none], [.ref 116])) rfl ⟨(Nat.le_of_ble_eq_true rfl), trivial, trivial⟩ ?_
        refine sm_w.cI t225 sr225 165 (i := 182) (as := [.ref 116]) (g := (340, [some (.ref 0), some (.ref 23), some (.ref 116), some (.ref 164), some (.int (x4)), some (.int (v36)), none, none], [])) rfl ⟨by decide, by decide, (Nat.le_of_ble_eq_true rfl), (sm_K.g (k_116 hS37) (sm_sh.rf _)).1, (sm_K.g (k_116 hS37) (sm_sh.rf _)).2, (Nat.le_of_ble_eq_true rfl)⟩ (Nat.le_of_ble_eq_true rfl) (by decide) (sm_cI.s (by decide) hS37 h) (fun v39 M38 h => ?_)
        obtain ⟨hS40, h⟩ := h
        refine sm_w.run t225 sr225 166 2 (M2 := M38) (f2 := (346, [some (.ref 0), some (.ref 23), some (.ref 116), some (.ref 164), some (.int (x4)), some (.int (v36)), some (.int (v39)), none], [.ref 116])) rfl ⟨(Nat.le_of_ble_eq_true rfl), trivial, trivial⟩ ?_
        refine sm_w.cI t225 sr225 168 (i := 161) (as := [.ref 116]) (g := (346, [some (.ref 0), some (.ref 23), some (.ref 116), some (.ref 164), some (.int (x4)), some (.int (v36)), some (.int (v39)), none], [])) rfl ⟨by decide, by decide, (Nat.le_of_ble_eq_true rfl), (sm_K.g (k_116 hS40) (sm_sh.rf _)).1, (sm_K.g (k_116 hS40) (sm_sh.rf _)).2, (Nat.le_of_ble_eq_true rfl)⟩ (Nat.le_of_ble_eq_true rfl) (by decide) (p161_c hS40) (fun vz M2 hz => ?_)
        obtain ⟨hz1, hz2⟩ := hz
        subst hz1
        have hz2 := hz2.symm
        subst hz2
        refine sm_w.run t225 sr225 169 2 (M2 := M38) (f2 := (if (p161_0 M38) = v36 then 356 else 354, [some (.ref 0), some (.ref 23), some (.ref 116), some (.ref 164), some (.int (x4)), some (.int (v36)), some (.int (v39)), none], [])) rfl ⟨trivial, trivial, trivial⟩ ?_
        refine sm_w.ite (fun hc => ?_) (fun hc => ?_)
        · have h := h.1 hc
          refine sm_w.run t225 sr225 173 2 (M2 := M38) (f2 := (if v36 = 0 then 361 else 373, [some (.ref 0), some (.ref 23), some (.ref 116), some (.ref 164), some (.int (x4)), some (.int (v36)), some (.int (v39)), none], [])) rfl ⟨trivial, trivial, trivial⟩ ?_
          refine sm_w.ite (fun hc => ?_) (fun hc => ?_)
          · have h := h.1 hc
            obtain ⟨c41, h⟩ := h
            refine sm_w.run t225 sr225 175 7 (M2 := M38) (f2 := (if (lg_cmp (jV M38 164 (0 : Int32).toNatClampNeg) v39.toInt64) = 0 then 373 else 371, [some (.ref 0), some (.ref 23), some (.ref 116), some (.ref 164), some (.int (x4)), some (.int (v36)), some (.int (v39)), none], [])) rfl ⟨trivial, trivial, sm_K.a2 (k_164 hS40) (l_164 hS40) c41, trivial, trivial, trivial, trivial, trivial⟩ ?_
            refine sm_w.ite (fun hc => ?_) (fun hc => ?_)
            · have h := h.1 (lc_e.mp hc)
              refine sm_w.run t225 sr225 184 1 (M2 := M38) (f2 := (1127, [some (.ref 0), some (.ref 23), some (.ref 116), some (.ref 164), some (.int (x4)), some (.int (v36)), some (.int (v39)), none], [])) rfl ⟨trivial, trivial⟩ ?_
              refine sm_w.weak (ls := [some (.ref 0), some (.ref 23), some (.ref 116), some (.ref 164), some (.int (x4)), none, none, none]) (sm_leI [true, true, true, true, true, false, false, false] rfl) ?_
              exact h
            · have h := h.2 (fun z => hc (lc_e.mpr z))
              refine sm_w.run t225 sr225 182 1 (M2 := M38) (f2 := (372, [some (.ref 0), some (.ref 23), some (.ref 116), some (.ref 164), some (.int (x4)), some (.int (v36)), some (.int (v39)), none], [.int ((0 : Int32))])) rfl ⟨trivial, trivial⟩ ?_
              exact sm_w.end t225 sr225 183 (o := .returned (some (.int ((0 : Int32))))) (M2 := M38) rfl rfl (by decide) (⟨_, rfl, h⟩)
          · have h := h.2 hc
            refine sm_w.run t225 sr225 184 1 (M2 := M38) (f2 := (1127, [some (.ref 0), some (.ref 23), some (.ref 116), some (.ref 164), some (.int (x4)), some (.int (v36)), some (.int (v39)), none], [])) rfl ⟨trivial, trivial⟩ ?_
            refine sm_w.weak (ls := [some (.ref 0), some (.ref 23), some (.ref 116), some (.ref 164), some (.int (x4)), none, none, none]) (sm_leI [true, true, true, true, true, false, false, false] rfl) ?_
            exact h
        · have h := h.2 hc
          refine sm_w.run t225 sr225 171 1 (M2 := M38) (f2 := (355, [some (.ref 0), some (.ref 23), some (.ref 116), some (.ref 164), some (.int (x4)), some (.int (v36)), some (.int (v39)), none], [.int ((0 : Int32))])) rfl ⟨trivial, trivial⟩ ?_
          exact sm_w.end t225 sr225 172 (o := .returned (some (.int ((0 : Int32))))) (M2 := M38) rfl rfl (by decide) (⟨_, rfl, h⟩)
      | 4, _, hc =>
        have h := h.2.2.2.2.1 hc
        refine sm_w.run t225 sr225 185 1 (M2 := M) (f2 := (377, [some (.ref 0), some (.ref 23), some (.ref 116), some (.ref 164), some (.int (x4)), none, none, none], [.ref 23])) rfl ⟨trivial, trivial⟩ ?_
        refine sm_w.cI t225 sr225 186 (i := 14) (as := [.ref 23]) (g := (377, [some (.ref 0), some (.ref 23), some (.ref 116), some (.ref 164), some (.int (x4)), none, none, none], [])) rfl ⟨by decide, by decide, (Nat.le_of_ble_eq_true rfl), (sm_K.g (k_23 hS) (sm_sh.rf _)).1, (sm_K.g (k_23 hS) (sm_sh.rf _)).2, (Nat.le_of_ble_eq_true rfl)⟩ (Nat.le_of_ble_eq_true rfl) (by decide) (p14_c hS) (fun vz M2 hz => ?_)
        obtain ⟨hz1, hz2⟩ := hz
        subst hz1
        have hz2 := hz2.symm
        subst hz2
        refine sm_w.run t225 sr225 187 1 (M2 := M) (f2 := (381, [some (.ref 0), some (.ref 23), some (.ref 116), some (.ref 164), some (.int (x4)), none, none, none], [.ref 116, .int (p14_0 M)])) rfl ⟨trivial, trivial⟩ ?_
        refine sm_w.cI t225 sr225 188 (i := 167) (as := [.ref 116]) (g := (381, [some (.ref 0), some (.ref 23), some (.ref 116), some (.ref 164), some (.int (x4)), none, none, none], [.int (p14_0 M)])) rfl ⟨by decide, by decide, (Nat.le_of_ble_eq_true rfl), (sm_K.g (k_116 hS) (sm_sh.rf _)).1, (sm_K.g (k_116 hS) (sm_sh.rf _)).2, (Nat.le_of_ble_eq_true rfl)⟩ (Nat.le_of_ble_eq_true rfl) (by decide) (sm_cI.s2 (by decide) hS (g167_0 (K := fun v43 M42 => (((p14_0 M) = v43 → sm_w 225 (1127, [some (.ref 0), some (.ref 23), some (.ref 116), some (.ref 164), some (.int (x4)), none, none, none], []) M42 (rI K)) ∧ (¬ (p14_0 M) = v43 → K (0 : Int32) M42))) hS h)) (fun v43 M42 h => ?_)
        obtain ⟨hS44, h⟩ := h
        refine sm_w.run t225 sr225 189 1 (M2 := M42) (f2 := (if (p14_0 M) = v43 then 1127 else 387, [some (.ref 0), some (.ref 23), some (.ref 116), some (.ref 164), some (.int (x4)), none, none, none], [])) rfl ⟨trivial, trivial⟩ ?_
        refine sm_w.ite (fun hc => ?_) (fun hc => ?_)
        · have h := h.1 hc
          exact h
        · have h := h.2 hc
          refine sm_w.run t225 sr225 190 1 (M2 := M42) (f2 := (388, [some (.ref 0), some (.ref 23), some (.ref 116), some (.ref 164), some (.int (x4)), none, none, none], [.int ((0 : Int32))])) rfl ⟨trivial, trivial⟩ ?_
          exact sm_w.end t225 sr225 191 (o := .returned (some (.int ((0 : Int32))))) (M2 := M42) rfl rfl (by decide) (⟨_, rfl, h⟩)
      | 5, _, hc =>
        have h := h.2.2.2.2.2.1 hc
        obtain ⟨c47, h⟩ := h
        refine sm_w.run t225 sr225 192 7 (M2 := M) (f2 := (397, [some (.ref 0), some (.ref 23), some (.ref 116), some (.ref 164), some (.int (x4)), none, none, none], [.ref 164, .int (iV M 0 (x4 + (1 : Int32)).toNatClampNeg), .ref 23])) rfl ⟨trivial, trivial, trivial, trivial, trivial, (k0a hS c47), trivial, trivial⟩ ?_
        refine sm_w.cI t225 sr225 199 (i := 76) (as := [.ref 23, .int (iV M 0 (x4 + (1 : Int32)).toNatClampNeg), .ref 164]) (g := (397, [some (.ref 0), some (.ref 23), some (.ref 116), some (.ref 164), some (.int (x4)), none, none, none], [])) rfl ⟨(Nat.le_of_ble_eq_true rfl), (Nat.le_of_ble_eq_true rfl)⟩ (Nat.le_of_ble_eq_true rfl) (by decide) h (fun v49 M48 h => ?_)
        obtain ⟨hS50, h⟩ := h
        obtain ⟨c51, h⟩ := h
        refine sm_w.run t225 sr225 200 7 (M2 := M48) (f2 := (409, [some (.ref 0), some (.ref 23), some (.ref 116), some (.ref 164), some (.int (x4)), some (.int (v49)), none, none], [.int (iV M48 0 (x4 + (1 : Int32)).toNatClampNeg), .ref 116])) rfl ⟨(Nat.le_of_ble_eq_true rfl), trivial, trivial, trivial, trivial, trivial, (k0a hS50 c51), trivial⟩ ?_
        refine sm_w.cI t225 sr225 207 (i := 190) (as := [.ref 116, .int (iV M48 0 (x4 + (1 : Int32)).toNatClampNeg)]) (g := (409, [some (.ref 0), some (.ref 23), some (.ref 116), some (.ref 164), some (.int (x4)), some (.int (v49)), none, none], [])) rfl ⟨by decide, by decide, (Nat.le_of_ble_eq_true rfl), (sm_K.g (k_116 hS50) (sm_sh.rf _)).1, (sm_K.g (k_116 hS50) (sm_sh.rf _)).2, (Nat.le_of_ble_eq_true rfl)⟩ (Nat.le_of_ble_eq_true rfl) (by decide) (sm_cI.s (by decide) hS50 h) (fun v53 M52 h => ?_)
        obtain ⟨hS54, h⟩ := h
        refine sm_w.run t225 sr225 208 2 (M2 := M52) (f2 := (415, [some (.ref 0), some (.ref 23), some (.ref 116), some (.ref 164), some (.int (x4)), some (.int (v49)), some (.int (v53)), none], [.ref 116])) rfl ⟨(Nat.le_of_ble_eq_true rfl), trivial, trivial⟩ ?_
        refine sm_w.cI t225 sr225 210 (i := 161) (as := [.ref 116]) (g := (415, [some (.ref 0), some (.ref 23), some (.ref 116), some (.ref 164), some (.int (x4)), some (.int (v49)), some (.int (v53)), none], [])) rfl ⟨by decide, by decide, (Nat.le_of_ble_eq_true rfl), (sm_K.g (k_116 hS54) (sm_sh.rf _)).1, (sm_K.g (k_116 hS54) (sm_sh.rf _)).2, (Nat.le_of_ble_eq_true rfl)⟩ (Nat.le_of_ble_eq_true rfl) (by decide) (p161_c hS54) (fun vz M2 hz => ?_)
        obtain ⟨hz1, hz2⟩ := hz
        subst hz1
        have hz2 := hz2.symm
        subst hz2
        refine sm_w.run t225 sr225 211 2 (M2 := M52) (f2 := (if (p161_0 M52) = v49 then 425 else 423, [some (.ref 0), some (.ref 23), some (.ref 116), some (.ref 164), some (.int (x4)), some (.int (v49)), some (.int (v53)), none], [])) rfl ⟨trivial, trivial, trivial⟩ ?_
        refine sm_w.ite (fun hc => ?_) (fun hc => ?_)
        · have h := h.1 hc
          refine sm_w.run t225 sr225 215 2 (M2 := M52) (f2 := (if v49 = 0 then 430 else 442, [some (.ref 0), some (.ref 23), some (.ref 116), some (.ref 164), some (.int (x4)), some (.int (v49)), some (.int (v53)), none], [])) rfl ⟨trivial, trivial, trivial⟩ ?_
          refine sm_w.ite (fun hc => ?_) (fun hc => ?_)
          · have h := h.1 hc
            obtain ⟨c55, h⟩ := h
            refine sm_w.run t225 sr225 217 7 (M2 := M52) (f2 := (if (lg_cmp (jV M52 164 (0 : Int32).toNatClampNeg) v53.toInt64) = 0 then 442 else 440, [some (.ref 0), some (.ref 23), some (.ref 116), some (.ref 164), some (.int (x4)), some (.int (v49)), some (.int (v53)), none], [])) rfl ⟨trivial, trivial, sm_K.a2 (k_164 hS54) (l_164 hS54) c55, trivial, trivial, trivial, trivial, trivial⟩ ?_
            refine sm_w.ite (fun hc => ?_) (fun hc => ?_)
            · have h := h.1 (lc_e.mp hc)
              refine sm_w.run t225 sr225 226 1 (M2 := M52) (f2 := (1127, [some (.ref 0), some (.ref 23), some (.ref 116), some (.ref 164), some (.int (x4)), some (.int (v49)), some (.int (v53)), none], [])) rfl ⟨trivial, trivial⟩ ?_
              refine sm_w.weak (ls := [some (.ref 0), some (.ref 23), some (.ref 116), some (.ref 164), some (.int (x4)), none, none, none]) (sm_leI [true, true, true, true, true, false, false, false] rfl) ?_
              exact h
            · have h := h.2 (fun z => hc (lc_e.mpr z))
              refine sm_w.run t225 sr225 224 1 (M2 := M52) (f2 := (441, [some (.ref 0), some (.ref 23), some (.ref 116), some (.ref 164), some (.int (x4)), some (.int (v49)), some (.int (v53)), none], [.int ((0 : Int32))])) rfl ⟨trivial, trivial⟩ ?_
              exact sm_w.end t225 sr225 225 (o := .returned (some (.int ((0 : Int32))))) (M2 := M52) rfl rfl (by decide) (⟨_, rfl, h⟩)
          · have h := h.2 hc
            refine sm_w.run t225 sr225 226 1 (M2 := M52) (f2 := (1127, [some (.ref 0), some (.ref 23), some (.ref 116), some (.ref 164), some (.int (x4)), some (.int (v49)), some (.int (v53)), none], [])) rfl ⟨trivial, trivial⟩ ?_
            refine sm_w.weak (ls := [some (.ref 0), some (.ref 23), some (.ref 116), some (.ref 164), some (.int (x4)), none, none, none]) (sm_leI [true, true, true, true, true, false, false, false] rfl) ?_
            exact h
        · have h := h.2 hc
          refine sm_w.run t225 sr225 213 1 (M2 := M52) (f2 := (424, [some (.ref 0), some (.ref 23), some (.ref 116), some (.ref 164), some (.int (x4)), some (.int (v49)), some (.int (v53)), none], [.int ((0 : Int32))])) rfl ⟨trivial, trivial⟩ ?_
          exact sm_w.end t225 sr225 214 (o := .returned (some (.int ((0 : Int32))))) (M2 := M52) rfl rfl (by decide) (⟨_, rfl, h⟩)
      | 6, _, hc =>
        have h := h.2.2.2.2.2.2.1 hc
        refine sm_w.run t225 sr225 227 1 (M2 := M) (f2 := (446, [some (.ref 0), some (.ref 23), some (.ref 116), some (.ref 164), some (.int (x4)), none, none, none], [.ref 23])) rfl ⟨trivial, trivial⟩ ?_
        refine sm_w.cI t225 sr225 228 (i := 15) (as := [.ref 23]) (g := (446, [some (.ref 0), some (.ref 23), some (.ref 116), some (.ref 164), some (.int (x4)), none, none, none], [])) rfl ⟨by decide, by decide, (Nat.le_of_ble_eq_true rfl), (sm_K.g (k_23 hS) (sm_sh.rf _)).1, (sm_K.g (k_23 hS) (sm_sh.rf _)).2, (Nat.le_of_ble_eq_true rfl)⟩ (Nat.le_of_ble_eq_true rfl) (by decide) (sm_cI.s (by decide) hS h) (fun v57 M56 h => ?_)
        obtain ⟨hS58, h⟩ := h
        refine sm_w.run t225 sr225 229 1 (M2 := M56) (f2 := (450, [some (.ref 0), some (.ref 23), some (.ref 116), some (.ref 164), some (.int (x4)), none, none, none], [.ref 116, .int (v57)])) rfl ⟨trivial, trivial⟩ ?_
        refine sm_w.cI t225 sr225 230 (i := 192) (as := [.ref 116]) (g := (450, [some (.ref 0), some (.ref 23), some (.ref 116), some (.ref 164), some (.int (x4)), none, none, none], [.int (v57)])) rfl ⟨by decide, by decide, (Nat.le_of_ble_eq_true rfl), (sm_K.g (k_116 hS58) (sm_sh.rf _)).1, (sm_K.g (k_116 hS58) (sm_sh.rf _)).2, (Nat.le_of_ble_eq_true rfl)⟩ (Nat.le_of_ble_eq_true rfl) (by decide) (sm_cI.s2 (by decide) hS58 (g192_0 (K := fun v60 M59 => ((v57 = v60 → sm_w 225 (1127, [some (.ref 0), some (.ref 23), some (.ref 116), some (.ref 164), some (.int (x4)), none, none, none], []) M59 (rI K)) ∧ (¬ v57 = v60 → K (0 : Int32) M59))) hS58 h)) (fun v60 M59 h => ?_)
        obtain ⟨hS61, h⟩ := h
        refine sm_w.run t225 sr225 231 1 (M2 := M59) (f2 := (if v57 = v60 then 1127 else 456, [some (.ref 0), some (.ref 23), some (.ref 116), some (.ref 164), some (.int (x4)), none, none, none], [])) rfl ⟨trivial, trivial⟩ ?_
        refine sm_w.ite (fun hc => ?_) (fun hc => ?_)
        · have h := h.1 hc
          exact h
        · have h := h.2 hc
          refine sm_w.run t225 sr225 232 1 (M2 := M59) (f2 := (457, [some (.ref 0), some (.ref 23), some (.ref 116), some (.ref 164), some (.int (x4)), none, none, none], [.int ((0 : Int32))])) rfl ⟨trivial, trivial⟩ ?_
          exact sm_w.end t225 sr225 233 (o := .returned (some (.int ((0 : Int32))))) (M2 := M59) rfl rfl (by decide) (⟨_, rfl, h⟩)
      | 7, _, hc =>
        have h := h.2.2.2.2.2.2.2.1 hc
        obtain ⟨c68, c69, c70, c71, c72, h⟩ := h
        refine sm_w.run t225 sr225 234 27 (M2 := M) (f2 := (490, [some (.ref 0), some (.ref 23), some (.ref 116), some (.ref 164), some (.int (x4)), none, none, none], [.ref 164, .int (iV M 0 (x4 + (5 : Int32)).toNatClampNeg), .int (iV M 0 (x4 + (4 : Int32)).toNatClampNeg), .int (iV M 0 (x4 + (3 : Int32)).toNatClampNeg), .int (iV M 0 (x4 + (2 : Int32)).toNatClampNeg), .int (iV M 0 (x4 + (1 : Int32)).toNatClampNeg), .ref 23])) rfl ⟨trivial, trivial, trivial, trivial, trivial, (k0a hS c68), trivial, trivial, trivial, trivial, (k0a hS c69), trivial, trivial, trivial, trivial, (k0a hS c70), trivial, trivial, trivial, trivial, (k0a hS c71), trivial, trivial, trivial, trivial, (k0a hS c72), trivial, trivial⟩ ?_
        refine sm_w.cI t225 sr225 261 (i := 85) (as := [.ref 23, .int (iV M 0 (x4 + (1 : Int32)).toNatClampNeg), .int (iV M 0 (x4 + (2 : Int32)).toNatClampNeg), .int (iV M 0 (x4 + (3 : Int32)).toNatClampNeg), .int (iV M 0 (x4 + (4 : Int32)).toNatClampNeg), .int (iV M 0 (x4 + (5 : Int32)).toNatClampNeg), .ref 164]) (g := (490, [some (.ref 0), some (.ref 23), some (.ref 116), some (.ref 164), some (.int (x4)), none, none, none], [])) rfl ⟨(Nat.le_of_ble_eq_true rfl), (Nat.le_of_ble_eq_true rfl)⟩ (Nat.le_of_ble_eq_true rfl) (by decide) h (fun v74 M73 h => ?_)
        obtain ⟨hS75, h⟩ := h
        obtain ⟨c76, c77, c78, c79, c80, h⟩ := h
        refine sm_w.run t225 sr225 262 27 (M2 := M73) (f2 := (526, [some (.ref 0), some (.ref 23), some (.ref 116), some (.ref 164), some (.int (x4)), some (.int (v74)), none, none], [.int (iV M73 0 (x4 + (5 : Int32)).toNatClampNeg), .int (iV M73 0 (x4 + (4 : Int32)).toNatClampNeg), .int (iV M73 0 (x4 + (3 : Int32)).toNatClampNeg), .int (iV M73 0 (x4 + (2 : Int32)).toNatClampNeg), .int (iV M73 0 (x4 + (1 : Int32)).toNatClampNeg), .ref 116])) rfl ⟨(Nat.le_of_ble_eq_true rfl), trivial, trivial, trivial, trivial, trivial, (k0a hS75 c76), trivial, trivial, trivial, trivial, (k0a hS75 c77), trivial, trivial, trivial, trivial, (k0a hS75 c78), trivial, trivial, trivial, trivial, (k0a hS75 c79), trivial, trivial, trivial, trivial, (k0a hS75 c80), trivial⟩ ?_
        refine sm_w.cI t225 sr225 289 (i := 198) (as := [.ref 116, .int (iV M73 0 (x4 + (1 : Int32)).toNatClampNeg), .int (iV M73 0 (x4 + (2 : Int32)).toNatClampNeg), .int (iV M73 0 (x4 + (3 : Int32)).toNatClampNeg), .int (iV M73 0 (x4 + (4 : Int32)).toNatClampNeg), .int (iV M73 0 (x4 + (5 : Int32)).toNatClampNeg)]) (g := (526, [some (.ref 0), some (.ref 23), some (.ref 116), some (.ref 164), some (.int (x4)), some (.int (v74)), none, none], [])) rfl ⟨by decide, by decide, (Nat.le_of_ble_eq_true rfl), (sm_K.g (k_116 hS75) (sm_sh.rf _)).1, (sm_K.g (k_116 hS75) (sm_sh.rf _)).2, (Nat.le_of_ble_eq_true rfl)⟩ (Nat.le_of_ble_eq_true rfl) (by decide) (sm_cI.s (by decide) hS75 h) (fun v82 M81 h => ?_)
        obtain ⟨hS83, h⟩ := h
        refine sm_w.run t225 sr225 290 2 (M2 := M81) (f2 := (532, [some (.ref 0), some (.ref 23), some (.ref 116), some (.ref 164), some (.int (x4)), some (.int (v74)), some (.int (v82)), none], [.ref 116])) rfl ⟨(Nat.le_of_ble_eq_true rfl), trivial, trivial⟩ ?_
        refine sm_w.cI t225 sr225 292 (i := 161) (as := [.ref 116]) (g := (532, [some (.ref 0), some (.ref 23), some (.ref 116), some (.ref 164), some (.int (x4)), some (.int (v74)), some (.int (v82)), none], [])) rfl ⟨by decide, by decide, (Nat.le_of_ble_eq_true rfl), (sm_K.g (k_116 hS83) (sm_sh.rf _)).1, (sm_K.g (k_116 hS83) (sm_sh.rf _)).2, (Nat.le_of_ble_eq_true rfl)⟩ (Nat.le_of_ble_eq_true rfl) (by decide) (p161_c hS83) (fun vz M2 hz => ?_)
        obtain ⟨hz1, hz2⟩ := hz
        subst hz1
        have hz2 := hz2.symm
        subst hz2
        refine sm_w.run t225 sr225 293 2 (M2 := M81) (f2 := (if (p161_0 M81) = v74 then 542 else 540, [some (.ref 0), some (.ref 23), some (.ref 116), some (.ref 164), some (.int (x4)), some (.int (v74)), some (.int (v82)), none], [])) rfl ⟨trivial, trivial, trivial⟩ ?_
        refine sm_w.ite (fun hc => ?_) (fun hc => ?_)
        · have h := h.1 hc
          refine sm_w.run t225 sr225 297 2 (M2 := M81) (f2 := (if v74 = 0 then 547 else 559, [some (.ref 0), some (.ref 23), some (.ref 116), some (.ref 164), some (.int (x4)), some (.int (v74)), some (.int (v82)), none], [])) rfl ⟨trivial, trivial, trivial⟩ ?_
          refine sm_w.ite (fun hc => ?_) (fun hc => ?_)
          · have h := h.1 hc
            obtain ⟨c84, h⟩ := h
            refine sm_w.run t225 sr225 299 7 (M2 := M81) (f2 := (if (lg_cmp (jV M81 164 (0 : Int32).toNatClampNeg) v82.toInt64) = 0 then 559 else 557, [some (.ref 0), some (.ref 23), some (.ref 116), some (.ref 164), some (.int (x4)), some (.int (v74)), some (.int (v82)), none], [])) rfl ⟨trivial, trivial, sm_K.a2 (k_164 hS83) (l_164 hS83) c84, trivial, trivial, trivial, trivial, trivial⟩ ?_
            refine sm_w.ite (fun hc => ?_) (fun hc => ?_)
            · have h := h.1 (lc_e.mp hc)
              refine sm_w.run t225 sr225 308 1 (M2 := M81) (f2 := (1127, [some (.ref 0), some (.ref 23), some (.ref 116), some (.ref 164), some (.int (x4)), some (.int (v74)), some (.int (v82)), none], [])) rfl ⟨trivial, trivial⟩ ?_
              refine sm_w.weak (ls := [some (.ref 0), some (.ref 23), some (.ref 116), some (.ref 164), some (.int (x4)), none, none, none]) (sm_leI [true, true, true, true, true, false, false, false] rfl) ?_
              exact h
            · have h := h.2 (fun z => hc (lc_e.mpr z))
              refine sm_w.run t225 sr225 306 1 (M2 := M81) (f2 := (558, [some (.ref 0), some (.ref 23), some (.ref 116), some (.ref 164), some (.int (x4)), some (.int (v74)), some (.int (v82)), none], [.int ((0 : Int32))])) rfl ⟨trivial, trivial⟩ ?_
              exact sm_w.end t225 sr225 307 (o := .returned (some (.int ((0 : Int32))))) (M2 := M81) rfl rfl (by decide) (⟨_, rfl, h⟩)
          · have h := h.2 hc
            refine sm_w.run t225 sr225 308 1 (M2 := M81) (f2 := (1127, [some (.ref 0), some (.ref 23), some (.ref 116), some (.ref 164), some (.int (x4)), some (.int (v74)), some (.int (v82)), none], [])) rfl ⟨trivial, trivial⟩ ?_
            refine sm_w.weak (ls := [some (.ref 0), some (.ref 23), some (.ref 116), some (.ref 164), some (.int (x4)), none, none, none]) (sm_leI [true, true, true, true, true, false, false, false] rfl) ?_
            exact h
        · have h := h.2 hc
          refine sm_w.run t225 sr225 295 1 (M2 := M81) (f2 := (541, [some (.ref 0), some (.ref 23), some (.ref 116), some (.ref 164), some (.int (x4)), some (.int (v74)), some (.int (v82)), none], [.int ((0 : Int32))])) rfl ⟨trivial, trivial⟩ ?_
          exact sm_w.end t225 sr225 296 (o := .returned (some (.int ((0 : Int32))))) (M2 := M81) rfl rfl (by decide) (⟨_, rfl, h⟩)
      | 8, _, hc =>
        have h := h.2.2.2.2.2.2.2.2.1 hc
        obtain ⟨c85, h⟩ := h
        refine sm_w.run t225 sr225 309 7 (M2 := M) (f2 := (570, [some (.ref 0), some (.ref 23), some (.ref 116), some (.ref 164), some (.int (x4)), none, none, none], [.ref 164, .int (iV M 0 (x4 + (1 : Int32)).toNatClampNeg), .ref 23])) rfl ⟨trivial, trivial, trivial, trivial, trivial, (k0a hS c85), trivial, trivial⟩ ?_
        refine sm_w.cI t225 sr225 316 (i := 128) (as := [.ref 23, .int (iV M 0 (x4 + (1 : Int32)).toNatClampNeg), .ref 164]) (g := (570, [some (.ref 0), some (.ref 23), some (.ref 116), some (.ref 164), some (.int (x4)), none, none, none], [])) rfl ⟨(Nat.le_of_ble_eq_true rfl), (Nat.le_of_ble_eq_true rfl)⟩ (Nat.le_of_ble_eq_true rfl) (by decide) h (fun v87 M86 h => ?_)
        obtain ⟨hS88, h⟩ := h
        obtain ⟨c89, h⟩ := h
        refine sm_w.run t225 sr225 317 7 (M2 := M86) (f2 := (582, [some (.ref 0), some (.ref 23), some (.ref 116), some (.ref 164), some (.int (x4)), some (.int (v87)), none, none], [.int (iV M86 0 (x4 + (1 : Int32)).toNatClampNeg), .ref 116])) rfl ⟨(Nat.le_of_ble_eq_true rfl), trivial, trivial, trivial, trivial, trivial, (k0a hS88 c89), trivial⟩ ?_
        refine sm_w.cJ t225 sr225 324 (i := 214) (as := [.ref 116, .int (iV M86 0 (x4 + (1 : Int32)).toNatClampNeg)]) (g := (582, [some (.ref 0), some (.ref 23), some (.ref 116), some (.ref 164), some (.int (x4)), some (.int (v87)), none, none], [])) rfl ⟨by decide, by decide, (Nat.le_of_ble_eq_true rfl), (sm_K.g (k_116 hS88) (sm_sh.rf _)).1, (sm_K.g (k_116 hS88) (sm_sh.rf _)).2, (Nat.le_of_ble_eq_true rfl)⟩ (Nat.le_of_ble_eq_true rfl) (by decide) (sm_cJ.s (by decide) hS88 h) (fun v91 M90 h => ?_)
        obtain ⟨hS92, h⟩ := h
        refine sm_w.run t225 sr225 325 2 (M2 := M90) (f2 := (588, [some (.ref 0), some (.ref 23), some (.ref 116), some (.ref 164), some (.int (x4)), some (.int (v87)), some (.long (v91)), none], [.ref 116])) rfl ⟨(Nat.le_of_ble_eq_true rfl), trivial, trivial⟩ ?_
        refine sm_w.cI t225 sr225 327 (i := 161) (as := [.ref 116]) (g := (588, [some (.ref 0), some (.ref 23), some (.ref 116), some (.ref 164), some (.int (x4)), some (.int (v87)), some (.long (v91)), none], [])) rfl ⟨by decide, by decide, (Nat.le_of_ble_eq_true rfl), (sm_K.g (k_116 hS92) (sm_sh.rf _)).1, (sm_K.g (k_116 hS92) (sm_sh.rf _)).2, (Nat.le_of_ble_eq_true rfl)⟩ (Nat.le_of_ble_eq_true rfl) (by decide) (p161_c hS92) (fun vz M2 hz => ?_)
        obtain ⟨hz1, hz2⟩ := hz
        subst hz1
        have hz2 := hz2.symm
        subst hz2
        refine sm_w.run t225 sr225 328 2 (M2 := M90) (f2 := (if (p161_0 M90) = v87 then 598 else 596, [some (.ref 0), some (.ref 23), some (.ref 116), some (.ref 164), some (.int (x4)), some (.int (v87)), some (.long (v91)), none], [])) rfl ⟨trivial, trivial, trivial⟩ ?_
        refine sm_w.ite (fun hc => ?_) (fun hc => ?_)
        · have h := h.1 hc
          refine sm_w.run t225 sr225 332 2 (M2 := M90) (f2 := (if v87 = 0 then 603 else 614, [some (.ref 0), some (.ref 23), some (.ref 116), some (.ref 164), some (.int (x4)), some (.int (v87)), some (.long (v91)), none], [])) rfl ⟨trivial, trivial, trivial⟩ ?_
          refine sm_w.ite (fun hc => ?_) (fun hc => ?_)
          · have h := h.1 hc
            obtain ⟨c93, h⟩ := h
            refine sm_w.run t225 sr225 334 6 (M2 := M90) (f2 := (if (lg_cmp (jV M90 164 (0 : Int32).toNatClampNeg) v91) = 0 then 614 else 612, [some (.ref 0), some (.ref 23), some (.ref 116), some (.ref 164), some (.int (x4)), some (.int (v87)), some (.long (v91)), none], [])) rfl ⟨trivial, trivial, sm_K.a2 (k_164 hS92) (l_164 hS92) c93, trivial, trivial, trivial, trivial⟩ ?_
            refine sm_w.ite (fun hc => ?_) (fun hc => ?_)
            · have h := h.1 (lc_e.mp hc)
              refine sm_w.run t225 sr225 342 1 (M2 := M90) (f2 := (1127, [some (.ref 0), some (.ref 23), some (.ref 116), some (.ref 164), some (.int (x4)), some (.int (v87)), some (.long (v91)), none], [])) rfl ⟨trivial, trivial⟩ ?_
              refine sm_w.weak (ls := [some (.ref 0), some (.ref 23), some (.ref 116), some (.ref 164), some (.int (x4)), none, none, none]) (sm_leI [true, true, true, true, true, false, false, false] rfl) ?_
              exact h
            · have h := h.2 (fun z => hc (lc_e.mpr z))
              refine sm_w.run t225 sr225 340 1 (M2 := M90) (f2 := (613, [some (.ref 0), some (.ref 23), some (.ref 116), some (.ref 164), some (.int (x4)), some (.int (v87)), some (.long (v91)), none], [.int ((0 : Int32))])) rfl ⟨trivial, trivial⟩ ?_
              exact sm_w.end t225 sr225 341 (o := .returned (some (.int ((0 : Int32))))) (M2 := M90) rfl rfl (by decide) (⟨_, rfl, h⟩)
          · have h := h.2 hc
            refine sm_w.run t225 sr225 342 1 (M2 := M90) (f2 := (1127, [some (.ref 0), some (.ref 23), some (.ref 116), some (.ref 164), some (.int (x4)), some (.int (v87)), some (.long (v91)), none], [])) rfl ⟨trivial, trivial⟩ ?_
            refine sm_w.weak (ls := [some (.ref 0), some (.ref 23), some (.ref 116), some (.ref 164), some (.int (x4)), none, none, none]) (sm_leI [true, true, true, true, true, false, false, false] rfl) ?_
            exact h
        · have h := h.2 hc
          refine sm_w.run t225 sr225 330 1 (M2 := M90) (f2 := (597, [some (.ref 0), some (.ref 23), some (.ref 116), some (.ref 164), some (.int (x4)), some (.int (v87)), some (.long (v91)), none], [.int ((0 : Int32))])) rfl ⟨trivial, trivial⟩ ?_
          exact sm_w.end t225 sr225 331 (o := .returned (some (.int ((0 : Int32))))) (M2 := M90) rfl rfl (by decide) (⟨_, rfl, h⟩)
      | 9, _, hc =>
        have h := h.2.2.2.2.2.2.2.2.2.1 hc
        obtain ⟨c94, c95, h⟩ := h
        refine sm_w.run t225 sr225 343 12 (M2 := M) (f2 := (631, [some (.ref 0), some (.ref 23), some (.ref 116), some (.ref 164), some (.int (x4)), none, none, none], [.ref 164, .int (iV M 0 (x4 + (2 : Int32)).toNatClampNeg), .int (iV M 0 (x4 + (1 : Int32)).toNatClampNeg), .ref 23])) rfl ⟨trivial, trivial, trivial, trivial, trivial, (k0a hS c94), trivial, trivial, trivial, trivial, (k0a hS c95), trivial, trivial⟩ ?_
        refine sm_w.cI t225 sr225 355 (i := 131) (as := [.ref 23, .int (iV M 0 (x4 + (1 : Int32)).toNatClampNeg), .int (iV M 0 (x4 + (2 : Int32)).toNatClampNeg), .ref 164]) (g := (631, [some (.ref 0), some (.ref 23), some (.ref 116), some (.ref 164), some (.int (x4)), none, none, none], [])) rfl ⟨(Nat.le_of_ble_eq_true rfl), (Nat.le_of_ble_eq_true rfl)⟩ (Nat.le_of_ble_eq_true rfl) (by decide) h (fun v97 M96 h => ?_)
        obtain ⟨hS98, h⟩ := h
        obtain ⟨c99, c100, h⟩ := h
        refine sm_w.run t225 sr225 356 12 (M2 := M96) (f2 := (649, [some (.ref 0), some (.ref 23), some (.ref 116), some (.ref 164), some (.int (x4)), some (.int (v97)), none, none], [.int (iV M96 0 (x4 + (2 : Int32)).toNatClampNeg), .int (iV M96 0 (x4 + (1 : Int32)).toNatClampNeg), .ref 116])) rfl ⟨(Nat.le_of_ble_eq_true rfl), trivial, trivial, trivial, trivial, trivial, (k0a hS98 c99), trivial, trivial, trivial, trivial, (k0a hS98 c100), trivial⟩ ?_
        refine sm_w.cJ t225 sr225 368 (i := 215) (as := [.ref 116, .int (iV M96 0 (x4 + (1 : Int32)).toNatClampNeg), .int (iV M96 0 (x4 + (2 : Int32)).toNatClampNeg)]) (g := (649, [some (.ref 0), some (.ref 23), some (.ref 116), some (.ref 164), some (.int (x4)), some (.int (v97)), none, none], [])) rfl ⟨by decide, by decide, (Nat.le_of_ble_eq_true rfl), (sm_K.g (k_116 hS98) (sm_sh.rf _)).1, (sm_K.g (k_116 hS98) (sm_sh.rf _)).2, (Nat.le_of_ble_eq_true rfl)⟩ (Nat.le_of_ble_eq_true rfl) (by decide) (sm_cJ.s (by decide) hS98 h) (fun v102 M101 h => ?_)
        obtain ⟨hS103, h⟩ := h
        refine sm_w.run t225 sr225 369 2 (M2 := M101) (f2 := (655, [some (.ref 0), some (.ref 23), some (.ref 116), some (.ref 164), some (.int (x4)), some (.int (v97)), some (.long (v102)), none], [.ref 116])) rfl ⟨(Nat.le_of_ble_eq_true rfl), trivial, trivial⟩ ?_
        refine sm_w.cI t225 sr225 371 (i := 161) (as := [.ref 116]) (g := (655, [some (.ref 0), some (.ref 23), some (.ref 116), some (.ref 164), some (.int (x4)), some (.int (v97)), some (.long (v102)), none], [])) rfl ⟨by decide, by decide, (Nat.le_of_ble_eq_true rfl), (sm_K.g (k_116 hS103) (sm_sh.rf _)).1, (sm_K.g (k_116 hS103) (sm_sh.rf _)).2, (Nat.le_of_ble_eq_true rfl)⟩ (Nat.le_of_ble_eq_true rfl) (by decide) (p161_c hS103) (fun vz M2 hz => ?_)
        obtain ⟨hz1, hz2⟩ := hz
        subst hz1
        have hz2 := hz2.symm
        subst hz2
        refine sm_w.run t225 sr225 372 2 (M2 := M101) (f2 := (if (p161_0 M101) = v97 then 665 else 663, [some (.ref 0), some (.ref 23), some (.ref 116), some (.ref 164), some (.int (x4)), some (.int (v97)), some (.long (v102)), none], [])) rfl ⟨trivial, trivial, trivial⟩ ?_
        refine sm_w.ite (fun hc => ?_) (fun hc => ?_)
        · have h := h.1 hc
          refine sm_w.run t225 sr225 376 2 (M2 := M101) (f2 := (if v97 = 0 then 670 else 681, [some (.ref 0), some (.ref 23), some (.ref 116), some (.ref 164), some (.int (x4)), some (.int (v97)), some (.long (v102)), none], [])) rfl ⟨trivial, trivial, trivial⟩ ?_
          refine sm_w.ite (fun hc => ?_) (fun hc => ?_)
          · have h := h.1 hc
            obtain ⟨c104, h⟩ := h
            refine sm_w.run t225 sr225 378 6 (M2 := M101) (f2 := (if (lg_cmp (jV M101 164 (0 : Int32).toNatClampNeg) v102) = 0 then 681 else 679, [some (.ref 0), some (.ref 23), some (.ref 116), some (.ref 164), some (.int (x4)), some (.int (v97)), some (.long (v102)), none], [])) rfl ⟨trivial, trivial, sm_K.a2 (k_164 hS103) (l_164 hS103) c104, trivial, trivial, trivial, trivial⟩ ?_
            refine sm_w.ite (fun hc => ?_) (fun hc => ?_)
            · have h := h.1 (lc_e.mp hc)
              refine sm_w.run t225 sr225 386 1 (M2 := M101) (f2 := (1127, [some (.ref 0), some (.ref 23), some (.ref 116), some (.ref 164), some (.int (x4)), some (.int (v97)), some (.long (v102)), none], [])) rfl ⟨trivial, trivial⟩ ?_
              refine sm_w.weak (ls := [some (.ref 0), some (.ref 23), some (.ref 116), some (.ref 164), some (.int (x4)), none, none, none]) (sm_leI [true, true, true, true, true, false, false, false] rfl) ?_
              exact h
            · have h := h.2 (fun z => hc (lc_e.mpr z))
              refine sm_w.run t225 sr225 384 1 (M2 := M101) (f2 := (680, [some (.ref 0), some (.ref 23), some (.ref 116), some (.ref 164), some (.int (x4)), some (.int (v97)), some (.long (v102)), none], [.int ((0 : Int32))])) rfl ⟨trivial, trivial⟩ ?_
              exact sm_w.end t225 sr225 385 (o := .returned (some (.int ((0 : Int32))))) (M2 := M101) rfl rfl (by decide) (⟨_, rfl, h⟩)
          · have h := h.2 hc
            refine sm_w.run t225 sr225 386 1 (M2 := M101) (f2 := (1127, [some (.ref 0), some (.ref 23), some (.ref 116), some (.ref 164), some (.int (x4)), some (.int (v97)), some (.long (v102)), none], [])) rfl ⟨trivial, trivial⟩ ?_
            refine sm_w.weak (ls := [some (.ref 0), some (.ref 23), some (.ref 116), some (.ref 164), some (.int (x4)), none, none, none]) (sm_leI [true, true, true, true, true, false, false, false] rfl) ?_
            exact h
        · have h := h.2 hc
          refine sm_w.run t225 sr225 374 1 (M2 := M101) (f2 := (664, [some (.ref 0), some (.ref 23), some (.ref 116), some (.ref 164), some (.int (x4)), some (.int (v97)), some (.long (v102)), none], [.int ((0 : Int32))])) rfl ⟨trivial, trivial⟩ ?_
          exact sm_w.end t225 sr225 375 (o := .returned (some (.int ((0 : Int32))))) (M2 := M101) rfl rfl (by decide) (⟨_, rfl, h⟩)
      | 10, _, hc =>
        have h := h.2.2.2.2.2.2.2.2.2.2.1 hc
        obtain ⟨c105, c106, h⟩ := h
        refine sm_w.run t225 sr225 387 12 (M2 := M) (f2 := (698, [some (.ref 0), some (.ref 23), some (.ref 116), some (.ref 164), some (.int (x4)), none, none, none], [.ref 164, .int (iV M 0 (x4 + (2 : Int32)).toNatClampNeg), .int (iV M 0 (x4 + (1 : Int32)).toNatClampNeg), .ref 23])) rfl ⟨trivial, trivial, trivial, trivial, trivial, (k0a hS c105), trivial, trivial, trivial, trivial, (k0a hS c106), trivial, trivial⟩ ?_
        refine sm_w.cI t225 sr225 399 (i := 133) (as := [.ref 23, .int (iV M 0 (x4 + (1 : Int32)).toNatClampNeg), .int (iV M 0 (x4 + (2 : Int32)).toNatClampNeg), .ref 164]) (g := (698, [some (.ref 0), some (.ref 23), some (.ref 116), some (.ref 164), some (.int (x4)), none, none, none], [])) rfl ⟨(Nat.le_of_ble_eq_true rfl), (Nat.le_of_ble_eq_true rfl)⟩ (Nat.le_of_ble_eq_true rfl) (by decide) h (fun v108 M107 h => ?_)
        obtain ⟨hS109, h⟩ := h
        obtain ⟨c110, c111, h⟩ := h
        refine sm_w.run t225 sr225 400 12 (M2 := M107) (f2 := (716, [some (.ref 0), some (.ref 23), some (.ref 116), some (.ref 164), some (.int (x4)), some (.int (v108)), none, none], [.int (iV M107 0 (x4 + (2 : Int32)).toNatClampNeg), .int (iV M107 0 (x4 + (1 : Int32)).toNatClampNeg), .ref 116])) rfl ⟨(Nat.le_of_ble_eq_true rfl), trivial, trivial, trivial, trivial, trivial, (k0a hS109 c110), trivial, trivial, trivial, trivial, (k0a hS109 c111), trivial⟩ ?_
        refine sm_w.cJ t225 sr225 412 (i := 216) (as := [.ref 116, .int (iV M107 0 (x4 + (1 : Int32)).toNatClampNeg), .int (iV M107 0 (x4 + (2 : Int32)).toNatClampNeg)]) (g := (716, [some (.ref 0), some (.ref 23), some (.ref 116), some (.ref 164), some (.int (x4)), some (.int (v108)), none, none], [])) rfl ⟨by decide, by decide, (Nat.le_of_ble_eq_true rfl), (sm_K.g (k_116 hS109) (sm_sh.rf _)).1, (sm_K.g (k_116 hS109) (sm_sh.rf _)).2, (Nat.le_of_ble_eq_true rfl)⟩ (Nat.le_of_ble_eq_true rfl) (by decide) (sm_cJ.s (by decide) hS109 h) (fun v113 M112 h => ?_)
        obtain ⟨hS114, h⟩ := h
        refine sm_w.run t225 sr225 413 2 (M2 := M112) (f2 := (722, [some (.ref 0), some (.ref 23), some (.ref 116), some (.ref 164), some (.int (x4)), some (.int (v108)), some (.long (v113)), none], [.ref 116])) rfl ⟨(Nat.le_of_ble_eq_true rfl), trivial, trivial⟩ ?_
        refine sm_w.cI t225 sr225 415 (i := 161) (as := [.ref 116]) (g := (722, [some (.ref 0), some (.ref 23), some (.ref 116), some (.ref 164), some (.int (x4)), some (.int (v108)), some (.long (v113)), none], [])) rfl ⟨by decide, by decide, (Nat.le_of_ble_eq_true rfl), (sm_K.g (k_116 hS114) (sm_sh.rf _)).1, (sm_K.g (k_116 hS114) (sm_sh.rf _)).2, (Nat.le_of_ble_eq_true rfl)⟩ (Nat.le_of_ble_eq_true rfl) (by decide) (p161_c hS114) (fun vz M2 hz => ?_)
        obtain ⟨hz1, hz2⟩ := hz
        subst hz1
        have hz2 := hz2.symm
        subst hz2
        refine sm_w.run t225 sr225 416 2 (M2 := M112) (f2 := (if (p161_0 M112) = v108 then 732 else 730, [some (.ref 0), some (.ref 23), some (.ref 116), some (.ref 164), some (.int (x4)), some (.int (v108)), some (.long (v113)), none], [])) rfl ⟨trivial, trivial, trivial⟩ ?_
        refine sm_w.ite (fun hc => ?_) (fun hc => ?_)
        · have h := h.1 hc
          refine sm_w.run t225 sr225 420 2 (M2 := M112) (f2 := (if v108 = 0 then 737 else 748, [some (.ref 0), some (.ref 23), some (.ref 116), some (.ref 164), some (.int (x4)), some (.int (v108)), some (.long (v113)), none], [])) rfl ⟨trivial, trivial, trivial⟩ ?_
          refine sm_w.ite (fun hc => ?_) (fun hc => ?_)
          · have h := h.1 hc
            obtain ⟨c115, h⟩ := h
            refine sm_w.run t225 sr225 422 6 (M2 := M112) (f2 := (if (lg_cmp (jV M112 164 (0 : Int32).toNatClampNeg) v113) = 0 then 748 else 746, [some (.ref 0), some (.ref 23), some (.ref 116), some (.ref 164), some (.int (x4)), some (.int (v108)), some (.long (v113)), none], [])) rfl ⟨trivial, trivial, sm_K.a2 (k_164 hS114) (l_164 hS114) c115, trivial, trivial, trivial, trivial⟩ ?_
            refine sm_w.ite (fun hc => ?_) (fun hc => ?_)
            · have h := h.1 (lc_e.mp hc)
              refine sm_w.run t225 sr225 430 1 (M2 := M112) (f2 := (1127, [some (.ref 0), some (.ref 23), some (.ref 116), some (.ref 164), some (.int (x4)), some (.int (v108)), some (.long (v113)), none], [])) rfl ⟨trivial, trivial⟩ ?_
              refine sm_w.weak (ls := [some (.ref 0), some (.ref 23), some (.ref 116), some (.ref 164), some (.int (x4)), none, none, none]) (sm_leI [true, true, true, true, true, false, false, false] rfl) ?_
              exact h
            · have h := h.2 (fun z => hc (lc_e.mpr z))
              refine sm_w.run t225 sr225 428 1 (M2 := M112) (f2 := (747, [some (.ref 0), some (.ref 23), some (.ref 116), some (.ref 164), some (.int (x4)), some (.int (v108)), some (.long (v113)), none], [.int ((0 : Int32))])) rfl ⟨trivial, trivial⟩ ?_
              exact sm_w.end t225 sr225 429 (o := .returned (some (.int ((0 : Int32))))) (M2 := M112) rfl rfl (by decide) (⟨_, rfl, h⟩)
          · have h := h.2 hc
            refine sm_w.run t225 sr225 430 1 (M2 := M112) (f2 := (1127, [some (.ref 0), some (.ref 23), some (.ref 116), some (.ref 164), some (.int (x4)), some (.int (v108)), some (.long (v113)), none], [])) rfl ⟨trivial, trivial⟩ ?_
            refine sm_w.weak (ls := [some (.ref 0), some (.ref 23), some (.ref 116), some (.ref 164), some (.int (x4)), none, none, none]) (sm_leI [true, true, true, true, true, false, false, false] rfl) ?_
            exact h
        · have h := h.2 hc
          refine sm_w.run t225 sr225 418 1 (M2 := M112) (f2 := (731, [some (.ref 0), some (.ref 23), some (.ref 116), some (.ref 164), some (.int (x4)), some (.int (v108)), some (.long (v113)), none], [.int ((0 : Int32))])) rfl ⟨trivial, trivial⟩ ?_
          exact sm_w.end t225 sr225 419 (o := .returned (some (.int ((0 : Int32))))) (M2 := M112) rfl rfl (by decide) (⟨_, rfl, h⟩)
      | 11, _, hc =>
        have h := h.2.2.2.2.2.2.2.2.2.2.2.1 hc
        obtain ⟨c116, c117, h⟩ := h
        refine sm_w.run t225 sr225 431 12 (M2 := M) (f2 := (765, [some (.ref 0), some (.ref 23), some (.ref 116), some (.ref 164), some (.int (x4)), none, none, none], [.ref 164, .int (iV M 0 (x4 + (2 : Int32)).toNatClampNeg), .int (iV M 0 (x4 + (1 : Int32)).toNatClampNeg), .ref 23])) rfl ⟨trivial, trivial, trivial, trivial, trivial, (k0a hS c116), trivial, trivial, trivial, trivial, (k0a hS c117), trivial, trivial⟩ ?_
        refine sm_w.cI t225 sr225 443 (i := 138) (as := [.ref 23, .int (iV M 0 (x4 + (1 : Int32)).toNatClampNeg), .int (iV M 0 (x4 + (2 : Int32)).toNatClampNeg), .ref 164]) (g := (765, [some (.ref 0), some (.ref 23), some (.ref 116), some (.ref 164), some (.int (x4)), none, none, none], [])) rfl ⟨(Nat.le_of_ble_eq_true rfl), (Nat.le_of_ble_eq_true rfl)⟩ (Nat.le_of_ble_eq_true rfl) (by decide) h (fun v119 M118 h => ?_)
        obtain ⟨hS120, h⟩ := h
        obtain ⟨c121, c122, h⟩ := h
        refine sm_w.run t225 sr225 444 12 (M2 := M118) (f2 := (783, [some (.ref 0), some (.ref 23), some (.ref 116), some (.ref 164), some (.int (x4)), some (.int (v119)), none, none], [.int (iV M118 0 (x4 + (2 : Int32)).toNatClampNeg), .int (iV M118 0 (x4 + (1 : Int32)).toNatClampNeg), .ref 116])) rfl ⟨(Nat.le_of_ble_eq_true rfl), trivial, trivial, trivial, trivial, trivial, (k0a hS120 c121), trivial, trivial, trivial, trivial, (k0a hS120 c122), trivial⟩ ?_
        refine sm_w.cJ t225 sr225 456 (i := 219) (as := [.ref 116, .int (iV M118 0 (x4 + (1 : Int32)).toNatClampNeg), .int (iV M118 0 (x4 + (2 : Int32)).toNatClampNeg)]) (g := (783, [some (.ref 0), some (.ref 23), some (.ref 116), some (.ref 164), some (.int (x4)), some (.int (v119)), none, none], [])) rfl ⟨by decide, by decide, (Nat.le_of_ble_eq_true rfl), (sm_K.g (k_116 hS120) (sm_sh.rf _)).1, (sm_K.g (k_116 hS120) (sm_sh.rf _)).2, (Nat.le_of_ble_eq_true rfl)⟩ (Nat.le_of_ble_eq_true rfl) (by decide) (sm_cJ.s (by decide) hS120 h) (fun v124 M123 h => ?_)
        obtain ⟨hS125, h⟩ := h
        refine sm_w.run t225 sr225 457 2 (M2 := M123) (f2 := (789, [some (.ref 0), some (.ref 23), some (.ref 116), some (.ref 164), some (.int (x4)), some (.int (v119)), some (.long (v124)), none], [.ref 116])) rfl ⟨(Nat.le_of_ble_eq_true rfl), trivial, trivial⟩ ?_
        refine sm_w.cI t225 sr225 459 (i := 161) (as := [.ref 116]) (g := (789, [some (.ref 0), some (.ref 23), some (.ref 116), some (.ref 164), some (.int (x4)), some (.int (v119)), some (.long (v124)), none], [])) rfl ⟨by decide, by decide, (Nat.le_of_ble_eq_true rfl), (sm_K.g (k_116 hS125) (sm_sh.rf _)).1, (sm_K.g (k_116 hS125) (sm_sh.rf _)).2, (Nat.le_of_ble_eq_true rfl)⟩ (Nat.le_of_ble_eq_true rfl) (by decide) (p161_c hS125) (fun vz M2 hz => ?_)
        obtain ⟨hz1, hz2⟩ := hz
        subst hz1
        have hz2 := hz2.symm
        subst hz2
        refine sm_w.run t225 sr225 460 2 (M2 := M123) (f2 := (if (p161_0 M123) = v119 then 799 else 797, [some (.ref 0), some (.ref 23), some (.ref 116), some (.ref 164), some (.int (x4)), some (.int (v119)), some (.long (v124)), none], [])) rfl ⟨trivial, trivial, trivial⟩ ?_
        refine sm_w.ite (fun hc => ?_) (fun hc => ?_)
        · have h := h.1 hc
          refine sm_w.run t225 sr225 464 2 (M2 := M123) (f2 := (if v119 = 0 then 804 else 815, [some (.ref 0), some (.ref 23), some (.ref 116), some (.ref 164), some (.int (x4)), some (.int (v119)), some (.long (v124)), none], [])) rfl ⟨trivial, trivial, trivial⟩ ?_
          refine sm_w.ite (fun hc => ?_) (fun hc => ?_)
          · have h := h.1 hc
            obtain ⟨c126, h⟩ := h
            refine sm_w.run t225 sr225 466 6 (M2 := M123) (f2 := (if (lg_cmp (jV M123 164 (0 : Int32).toNatClampNeg) v124) = 0 then 815 else 813, [some (.ref 0), some (.ref 23), some (.ref 116), some (.ref 164), some (.int (x4)), some (.int (v119)), some (.long (v124)), none], [])) rfl ⟨trivial, trivial, sm_K.a2 (k_164 hS125) (l_164 hS125) c126, trivial, trivial, trivial, trivial⟩ ?_
            refine sm_w.ite (fun hc => ?_) (fun hc => ?_)
            · have h := h.1 (lc_e.mp hc)
              refine sm_w.run t225 sr225 474 1 (M2 := M123) (f2 := (1127, [some (.ref 0), some (.ref 23), some (.ref 116), some (.ref 164), some (.int (x4)), some (.int (v119)), some (.long (v124)), none], [])) rfl ⟨trivial, trivial⟩ ?_
              refine sm_w.weak (ls := [some (.ref 0), some (.ref 23), some (.ref 116), some (.ref 164), some (.int (x4)), none, none, none]) (sm_leI [true, true, true, true, true, false, false, false] rfl) ?_
              exact h
            · have h := h.2 (fun z => hc (lc_e.mpr z))
              refine sm_w.run t225 sr225 472 1 (M2 := M123) (f2 := (814, [some (.ref 0), some (.ref 23), some (.ref 116), some (.ref 164), some (.int (x4)), some (.int (v119)), some (.long (v124)), none], [.int ((0 : Int32))])) rfl ⟨trivial, trivial⟩ ?_
              exact sm_w.end t225 sr225 473 (o := .returned (some (.int ((0 : Int32))))) (M2 := M123) rfl rfl (by decide) (⟨_, rfl, h⟩)
          · have h := h.2 hc
            refine sm_w.run t225 sr225 474 1 (M2 := M123) (f2 := (1127, [some (.ref 0), some (.ref 23), some (.ref 116), some (.ref 164), some (.int (x4)), some (.int (v119)), some (.long (v124)), none], [])) rfl ⟨trivial, trivial⟩ ?_
            refine sm_w.weak (ls := [some (.ref 0), some (.ref 23), some (.ref 116), some (.ref 164), some (.int (x4)), none, none, none]) (sm_leI [true, true, true, true, true, false, false, false] rfl) ?_
            exact h
        · have h := h.2 hc
          refine sm_w.run t225 sr225 462 1 (M2 := M123) (f2 := (798, [some (.ref 0), some (.ref 23), some (.ref 116), some (.ref 164), some (.int (x4)), some (.int (v119)), some (.long (v124)), none], [.int ((0 : Int32))])) rfl ⟨trivial, trivial⟩ ?_
          exact sm_w.end t225 sr225 463 (o := .returned (some (.int ((0 : Int32))))) (M2 := M123) rfl rfl (by decide) (⟨_, rfl, h⟩)
      | 12, _, hc =>
        have h := h.2.2.2.2.2.2.2.2.2.2.2.2.1 hc
        obtain ⟨c127, h⟩ := h
        refine sm_w.run t225 sr225 475 7 (M2 := M) (f2 := (826, [some (.ref 0), some (.ref 23), some (.ref 116), some (.ref 164), some (.int (x4)), none, none, none], [.ref 164, .int (iV M 0 (x4 + (1 : Int32)).toNatClampNeg), .ref 23])) rfl ⟨trivial, trivial, trivial, trivial, trivial, (k0a hS c127), trivial, trivial⟩ ?_
        refine sm_w.cI t225 sr225 482 (i := 143) (as := [.ref 23, .int (iV M 0 (x4 + (1 : Int32)).toNatClampNeg), .ref 164]) (g := (826, [some (.ref 0), some (.ref 23), some (.ref 116), some (.ref 164), some (.int (x4)), none, none, none], [])) rfl ⟨(Nat.le_of_ble_eq_true rfl), (Nat.le_of_ble_eq_true rfl)⟩ (Nat.le_of_ble_eq_true rfl) (by decide) h (fun v129 M128 h => ?_)
        obtain ⟨hS130, h⟩ := h
        obtain ⟨c131, h⟩ := h
        refine sm_w.run t225 sr225 483 7 (M2 := M128) (f2 := (838, [some (.ref 0), some (.ref 23), some (.ref 116), some (.ref 164), some (.int (x4)), some (.int (v129)), none, none], [.int (iV M128 0 (x4 + (1 : Int32)).toNatClampNeg), .ref 116])) rfl ⟨(Nat.le_of_ble_eq_true rfl), trivial, trivial, trivial, trivial, trivial, (k0a hS130 c131), trivial⟩ ?_
        refine sm_w.cI t225 sr225 490 (i := 220) (as := [.ref 116, .int (iV M128 0 (x4 + (1 : Int32)).toNatClampNeg)]) (g := (838, [some (.ref 0), some (.ref 23), some (.ref 116), some (.ref 164), some (.int (x4)), some (.int (v129)), none, none], [])) rfl ⟨by decide, by decide, (Nat.le_of_ble_eq_true rfl), (sm_K.g (k_116 hS130) (sm_sh.rf _)).1, (sm_K.g (k_116 hS130) (sm_sh.rf _)).2, (Nat.le_of_ble_eq_true rfl)⟩ (Nat.le_of_ble_eq_true rfl) (by decide) (sm_cI.s (by decide) hS130 h) (fun v133 M132 h => ?_)
        obtain ⟨hS134, h⟩ := h
        refine sm_w.run t225 sr225 491 2 (M2 := M132) (f2 := (844, [some (.ref 0), some (.ref 23), some (.ref 116), some (.ref 164), some (.int (x4)), some (.int (v129)), some (.int (v133)), none], [.ref 116])) rfl ⟨(Nat.le_of_ble_eq_true rfl), trivial, trivial⟩ ?_
        refine sm_w.cI t225 sr225 493 (i := 161) (as := [.ref 116]) (g := (844, [some (.ref 0), some (.ref 23), some (.ref 116), some (.ref 164), some (.int (x4)), some (.int (v129)), some (.int (v133)), none], [])) rfl ⟨by decide, by decide, (Nat.le_of_ble_eq_true rfl), (sm_K.g (k_116 hS134) (sm_sh.rf _)).1, (sm_K.g (k_116 hS134) (sm_sh.rf _)).2, (Nat.le_of_ble_eq_true rfl)⟩ (Nat.le_of_ble_eq_true rfl) (by decide) (p161_c hS134) (fun vz M2 hz => ?_)
        obtain ⟨hz1, hz2⟩ := hz
        subst hz1
        have hz2 := hz2.symm
        subst hz2
        refine sm_w.run t225 sr225 494 2 (M2 := M132) (f2 := (if (p161_0 M132) = v129 then 854 else 852, [some (.ref 0), some (.ref 23), some (.ref 116), some (.ref 164), some (.int (x4)), some (.int (v129)), some (.int (v133)), none], [])) rfl ⟨trivial, trivial, trivial⟩ ?_
        refine sm_w.ite (fun hc => ?_) (fun hc => ?_)
        · have h := h.1 hc
          refine sm_w.run t225 sr225 498 2 (M2 := M132) (f2 := (if v129 = 0 then 859 else 871, [some (.ref 0), some (.ref 23), some (.ref 116), some (.ref 164), some (.int (x4)), some (.int (v129)), some (.int (v133)), none], [])) rfl ⟨trivial, trivial, trivial⟩ ?_
          refine sm_w.ite (fun hc => ?_) (fun hc => ?_)
          · have h := h.1 hc
            obtain ⟨c135, h⟩ := h
            refine sm_w.run t225 sr225 500 7 (M2 := M132) (f2 := (if (lg_cmp (jV M132 164 (0 : Int32).toNatClampNeg) v133.toInt64) = 0 then 871 else 869, [some (.ref 0), some (.ref 23), some (.ref 116), some (.ref 164), some (.int (x4)), some (.int (v129)), some (.int (v133)), none], [])) rfl ⟨trivial, trivial, sm_K.a2 (k_164 hS134) (l_164 hS134) c135, trivial, trivial, trivial, trivial, trivial⟩ ?_
            refine sm_w.ite (fun hc => ?_) (fun hc => ?_)
            · have h := h.1 (lc_e.mp hc)
              refine sm_w.run t225 sr225 509 1 (M2 := M132) (f2 := (1127, [some (.ref 0), some (.ref 23), some (.ref 116), some (.ref 164), some (.int (x4)), some (.int (v129)), some (.int (v133)), none], [])) rfl ⟨trivial, trivial⟩ ?_
              refine sm_w.weak (ls := [some (.ref 0), some (.ref 23), some (.ref 116), some (.ref 164), some (.int (x4)), none, none, none]) (sm_leI [true, true, true, true, true, false, false, false] rfl) ?_
              exact h
            · have h := h.2 (fun z => hc (lc_e.mpr z))
              refine sm_w.run t225 sr225 507 1 (M2 := M132) (f2 := (870, [some (.ref 0), some (.ref 23), some (.ref 116), some (.ref 164), some (.int (x4)), some (.int (v129)), some (.int (v133)), none], [.int ((0 : Int32))])) rfl ⟨trivial, trivial⟩ ?_
              exact sm_w.end t225 sr225 508 (o := .returned (some (.int ((0 : Int32))))) (M2 := M132) rfl rfl (by decide) (⟨_, rfl, h⟩)
          · have h := h.2 hc
            refine sm_w.run t225 sr225 509 1 (M2 := M132) (f2 := (1127, [some (.ref 0), some (.ref 23), some (.ref 116), some (.ref 164), some (.int (x4)), some (.int (v129)), some (.int (v133)), none], [])) rfl ⟨trivial, trivial⟩ ?_
            refine sm_w.weak (ls := [some (.ref 0), some (.ref 23), some (.ref 116), some (.ref 164), some (.int (x4)), none, none, none]) (sm_leI [true, true, true, true, true, false, false, false] rfl) ?_
            exact h
        · have h := h.2 hc
          refine sm_w.run t225 sr225 496 1 (M2 := M132) (f2 := (853, [some (.ref 0), some (.ref 23), some (.ref 116), some (.ref 164), some (.int (x4)), some (.int (v129)), some (.int (v133)), none], [.int ((0 : Int32))])) rfl ⟨trivial, trivial⟩ ?_
          exact sm_w.end t225 sr225 497 (o := .returned (some (.int ((0 : Int32))))) (M2 := M132) rfl rfl (by decide) (⟨_, rfl, h⟩)
      | 13, _, hc =>
        have h := h.2.2.2.2.2.2.2.2.2.2.2.2.2.1 hc
        refine sm_w.run t225 sr225 510 2 (M2 := M) (f2 := (876, [some (.ref 0), some (.ref 23), some (.ref 116), some (.ref 164), some (.int (x4)), none, none, none], [.ref 164, .ref 23])) rfl ⟨trivial, trivial, trivial⟩ ?_
        refine sm_w.cI t225 sr225 512 (i := 146) (as := [.ref 23, .ref 164]) (g := (876, [some (.ref 0), some (.ref 23), some (.ref 116), some (.ref 164), some (.int (x4)), none, none, none], [])) rfl ⟨(Nat.le_of_ble_eq_true rfl), (Nat.le_of_ble_eq_true rfl)⟩ (Nat.le_of_ble_eq_true rfl) (by decide) h (fun v137 M136 h => ?_)
        obtain ⟨hS138, h⟩ := h
        refine sm_w.run t225 sr225 513 2 (M2 := M136) (f2 := (882, [some (.ref 0), some (.ref 23), some (.ref 116), some (.ref 164), some (.int (x4)), some (.int (v137)), none, none], [.ref 116])) rfl ⟨(Nat.le_of_ble_eq_true rfl), trivial, trivial⟩ ?_
        refine sm_w.cJ t225 sr225 515 (i := 221) (as := [.ref 116]) (g := (882, [some (.ref 0), some (.ref 23), some (.ref 116), some (.ref 164), some (.int (x4)), some (.int (v137)), none, none], [])) rfl ⟨by decide, by decide, (Nat.le_of_ble_eq_true rfl), (sm_K.g (k_116 hS138) (sm_sh.rf _)).1, (sm_K.g (k_116 hS138) (sm_sh.rf _)).2, (Nat.le_of_ble_eq_true rfl)⟩ (Nat.le_of_ble_eq_true rfl) (by decide) (sm_cJ.s (by decide) hS138 h) (fun v140 M139 h => ?_)
        obtain ⟨hS141, h⟩ := h
        refine sm_w.run t225 sr225 516 2 (M2 := M139) (f2 := (888, [some (.ref 0), some (.ref 23), some (.ref 116), some (.ref 164), some (.int (x4)), some (.int (v137)), some (.long (v140)), none], [.ref 116])) rfl ⟨(Nat.le_of_ble_eq_true rfl), trivial, trivial⟩ ?_
        refine sm_w.cI t225 sr225 518 (i := 161) (as := [.ref 116]) (g := (888, [some (.ref 0), some (.ref 23), some (.ref 116), some (.ref 164), some (.int (x4)), some (.int (v137)), some (.long (v140)), none], [])) rfl ⟨by decide, by decide, (Nat.le_of_ble_eq_true rfl), (sm_K.g (k_116 hS141) (sm_sh.rf _)).1, (sm_K.g (k_116 hS141) (sm_sh.rf _)).2, (Nat.le_of_ble_eq_true rfl)⟩ (Nat.le_of_ble_eq_true rfl) (by decide) (p161_c hS141) (fun vz M2 hz => ?_)
        obtain ⟨hz1, hz2⟩ := hz
        subst hz1
        have hz2 := hz2.symm
        subst hz2
        refine sm_w.run t225 sr225 519 2 (M2 := M139) (f2 := (if (p161_0 M139) = v137 then 898 else 896, [some (.ref 0), some (.ref 23), some (.ref 116), some (.ref 164), some (.int (x4)), some (.int (v137)), some (.long (v140)), none], [])) rfl ⟨trivial, trivial, trivial⟩ ?_
        refine sm_w.ite (fun hc => ?_) (fun hc => ?_)
        · have h := h.1 hc
          refine sm_w.run t225 sr225 523 2 (M2 := M139) (f2 := (if v137 = 0 then 903 else 914, [some (.ref 0), some (.ref 23), some (.ref 116), some (.ref 164), some (.int (x4)), some (.int (v137)), some (.long (v140)), none], [])) rfl ⟨trivial, trivial, trivial⟩ ?_
          refine sm_w.ite (fun hc => ?_) (fun hc => ?_)
          · have h := h.1 hc
            obtain ⟨c142, h⟩ := h
            refine sm_w.run t225 sr225 525 6 (M2 := M139) (f2 := (if (lg_cmp (jV M139 164 (0 : Int32).toNatClampNeg) v140) = 0 then 914 else 912, [some (.ref 0), some (.ref 23), some (.ref 116), some (.ref 164), some (.int (x4)), some (.int (v137)), some (.long (v140)), none], [])) rfl ⟨trivial, trivial, sm_K.a2 (k_164 hS141) (l_164 hS141) c142, trivial, trivial, trivial, trivial⟩ ?_
            refine sm_w.ite (fun hc => ?_) (fun hc => ?_)
            · have h := h.1 (lc_e.mp hc)
              refine sm_w.run t225 sr225 533 1 (M2 := M139) (f2 := (1127, [some (.ref 0), some (.ref 23), some (.ref 116), some (.ref 164), some (.int (x4)), some (.int (v137)), some (.long (v140)), none], [])) rfl ⟨trivial, trivial⟩ ?_
              refine sm_w.weak (ls := [some (.ref 0), some (.ref 23), some (.ref 116), some (.ref 164), some (.int (x4)), none, none, none]) (sm_leI [true, true, true, true, true, false, false, false] rfl) ?_
              exact h
            · have h := h.2 (fun z => hc (lc_e.mpr z))
              refine sm_w.run t225 sr225 531 1 (M2 := M139) (f2 := (913, [some (.ref 0), some (.ref 23), some (.ref 116), some (.ref 164), some (.int (x4)), some (.int (v137)), some (.long (v140)), none], [.int ((0 : Int32))])) rfl ⟨trivial, trivial⟩ ?_
              exact sm_w.end t225 sr225 532 (o := .returned (some (.int ((0 : Int32))))) (M2 := M139) rfl rfl (by decide) (⟨_, rfl, h⟩)
          · have h := h.2 hc
            refine sm_w.run t225 sr225 533 1 (M2 := M139) (f2 := (1127, [some (.ref 0), some (.ref 23), some (.ref 116), some (.ref 164), some (.int (x4)), some (.int (v137)), some (.long (v140)), none], [])) rfl ⟨trivial, trivial⟩ ?_
            refine sm_w.weak (ls := [some (.ref 0), some (.ref 23), some (.ref 116), some (.ref 164), some (.int (x4)), none, none, none]) (sm_leI [true, true, true, true, true, false, false, false] rfl) ?_
            exact h
        · have h := h.2 hc
          refine sm_w.run t225 sr225 521 1 (M2 := M139) (f2 := (897, [some (.ref 0), some (.ref 23), some (.ref 116), some (.ref 164), some (.int (x4)), some (.int (v137)), some (.long (v140)), none], [.int ((0 : Int32))])) rfl ⟨trivial, trivial⟩ ?_
          exact sm_w.end t225 sr225 522 (o := .returned (some (.int ((0 : Int32))))) (M2 := M139) rfl rfl (by decide) (⟨_, rfl, h⟩)
      | 14, _, hc =>
        have h := h.2.2.2.2.2.2.2.2.2.2.2.2.2.2.1 hc
        refine sm_w.run t225 sr225 534 2 (M2 := M) (f2 := (919, [some (.ref 0), some (.ref 23), some (.ref 116), some (.ref 164), some (.int (x4)), none, none, none], [.ref 164, .ref 23])) rfl ⟨trivial, trivial, trivial⟩ ?_
        refine sm_w.cI t225 sr225 536 (i := 151) (as := [.ref 23, .ref 164]) (g := (919, [some (.ref 0), some (.ref 23), some (.ref 116), some (.ref 164), some (.int (x4)), none, none, none], [])) rfl ⟨(Nat.le_of_ble_eq_true rfl), (Nat.le_of_ble_eq_true rfl)⟩ (Nat.le_of_ble_eq_true rfl) (by decide) h (fun v144 M143 h => ?_)
        obtain ⟨hS145, h⟩ := h
        refine sm_w.run t225 sr225 537 2 (M2 := M143) (f2 := (925, [some (.ref 0), some (.ref 23), some (.ref 116), some (.ref 164), some (.int (x4)), some (.int (v144)), none, none], [.ref 116])) rfl ⟨(Nat.le_of_ble_eq_true rfl), trivial, trivial⟩ ?_
        refine sm_w.cI t225 sr225 539 (i := 222) (as := [.ref 116]) (g := (925, [some (.ref 0), some (.ref 23), some (.ref 116), some (.ref 164), some (.int (x4)), some (.int (v144)), none, none], [])) rfl ⟨by decide, by decide, (Nat.le_of_ble_eq_true rfl), (sm_K.g (k_116 hS145) (sm_sh.rf _)).1, (sm_K.g (k_116 hS145) (sm_sh.rf _)).2, (Nat.le_of_ble_eq_true rfl)⟩ (Nat.le_of_ble_eq_true rfl) (by decide) (sm_cI.s (by decide) hS145 h) (fun v147 M146 h => ?_)
        obtain ⟨hS148, h⟩ := h
        refine sm_w.run t225 sr225 540 2 (M2 := M146) (f2 := (931, [some (.ref 0), some (.ref 23), some (.ref 116), some (.ref 164), some (.int (x4)), some (.int (v144)), some (.int (v147)), none], [.ref 116])) rfl ⟨(Nat.le_of_ble_eq_true rfl), trivial, trivial⟩ ?_
        refine sm_w.cI t225 sr225 542 (i := 161) (as := [.ref 116]) (g := (931, [some (.ref 0), some (.ref 23), some (.ref 116), some (.ref 164), some (.int (x4)), some (.int (v144)), some (.int (v147)), none], [])) rfl ⟨by decide, by decide, (Nat.le_of_ble_eq_true rfl), (sm_K.g (k_116 hS148) (sm_sh.rf _)).1, (sm_K.g (k_116 hS148) (sm_sh.rf _)).2, (Nat.le_of_ble_eq_true rfl)⟩ (Nat.le_of_ble_eq_true rfl) (by decide) (p161_c hS148) (fun vz M2 hz => ?_)
        obtain ⟨hz1, hz2⟩ := hz
        subst hz1
        have hz2 := hz2.symm
        subst hz2
        refine sm_w.run t225 sr225 543 2 (M2 := M146) (f2 := (if (p161_0 M146) = v144 then 941 else 939, [some (.ref 0), some (.ref 23), some (.ref 116), some (.ref 164), some (.int (x4)), some (.int (v144)), some (.int (v147)), none], [])) rfl ⟨trivial, trivial, trivial⟩ ?_
        refine sm_w.ite (fun hc => ?_) (fun hc => ?_)
        · have h := h.1 hc
          refine sm_w.run t225 sr225 547 2 (M2 := M146) (f2 := (if v144 = 0 then 946 else 958, [some (.ref 0), some (.ref 23), some (.ref 116), some (.ref 164), some (.int (x4)), some (.int (v144)), some (.int (v147)), none], [])) rfl ⟨trivial, trivial, trivial⟩ ?_
          refine sm_w.ite (fun hc => ?_) (fun hc => ?_)
          · have h := h.1 hc
            obtain ⟨c149, h⟩ := h
            refine sm_w.run t225 sr225 549 7 (M2 := M146) (f2 := (if (lg_cmp (jV M146 164 (0 : Int32).toNatClampNeg) v147.toInt64) = 0 then 958 else 956, [some (.ref 0), some (.ref 23), some (.ref 116), some (.ref 164), some (.int (x4)), some (.int (v144)), some (.int (v147)), none], [])) rfl ⟨trivial, trivial, sm_K.a2 (k_164 hS148) (l_164 hS148) c149, trivial, trivial, trivial, trivial, trivial⟩ ?_
            refine sm_w.ite (fun hc => ?_) (fun hc => ?_)
            · have h := h.1 (lc_e.mp hc)
              refine sm_w.run t225 sr225 558 1 (M2 := M146) (f2 := (1127, [some (.ref 0), some (.ref 23), some (.ref 116), some (.ref 164), some (.int (x4)), some (.int (v144)), some (.int (v147)), none], [])) rfl ⟨trivial, trivial⟩ ?_
              refine sm_w.weak (ls := [some (.ref 0), some (.ref 23), some (.ref 116), some (.ref 164), some (.int (x4)), none, none, none]) (sm_leI [true, true, true, true, true, false, false, false] rfl) ?_
              exact h
            · have h := h.2 (fun z => hc (lc_e.mpr z))
              refine sm_w.run t225 sr225 556 1 (M2 := M146) (f2 := (957, [some (.ref 0), some (.ref 23), some (.ref 116), some (.ref 164), some (.int (x4)), some (.int (v144)), some (.int (v147)), none], [.int ((0 : Int32))])) rfl ⟨trivial, trivial⟩ ?_
              exact sm_w.end t225 sr225 557 (o := .returned (some (.int ((0 : Int32))))) (M2 := M146) rfl rfl (by decide) (⟨_, rfl, h⟩)
          · have h := h.2 hc
            refine sm_w.run t225 sr225 558 1 (M2 := M146) (f2 := (1127, [some (.ref 0), some (.ref 23), some (.ref 116), some (.ref 164), some (.int (x4)), some (.int (v144)), some (.int (v147)), none], [])) rfl ⟨trivial, trivial⟩ ?_
            refine sm_w.weak (ls := [some (.ref 0), some (.ref 23), some (.ref 116), some (.ref 164), some (.int (x4)), none, none, none]) (sm_leI [true, true, true, true, true, false, false, false] rfl) ?_
            exact h
        · have h := h.2 hc
          refine sm_w.run t225 sr225 545 1 (M2 := M146) (f2 := (940, [some (.ref 0), some (.ref 23), some (.ref 116), some (.ref 164), some (.int (x4)), some (.int (v144)), some (.int (v147)), none], [.int ((0 : Int32))])) rfl ⟨trivial, trivial⟩ ?_
          exact sm_w.end t225 sr225 546 (o := .returned (some (.int ((0 : Int32))))) (M2 := M146) rfl rfl (by decide) (⟨_, rfl, h⟩)
      | 15, _, hc =>
        have h := h.2.2.2.2.2.2.2.2.2.2.2.2.2.2.2.1 hc
        obtain ⟨c150, h⟩ := h
        refine sm_w.run t225 sr225 559 7 (M2 := M) (f2 := (969, [some (.ref 0), some (.ref 23), some (.ref 116), some (.ref 164), some (.int (x4)), none, none, none], [.ref 164, .int (iV M 0 (x4 + (1 : Int32)).toNatClampNeg), .ref 23])) rfl ⟨trivial, trivial, trivial, trivial, trivial, (k0a hS c150), trivial, trivial⟩ ?_
        refine sm_w.cI t225 sr225 566 (i := 154) (as := [.ref 23, .int (iV M 0 (x4 + (1 : Int32)).toNatClampNeg), .ref 164]) (g := (969, [some (.ref 0), some (.ref 23), some (.ref 116), some (.ref 164), some (.int (x4)), none, none, none], [])) rfl ⟨(Nat.le_of_ble_eq_true rfl), (Nat.le_of_ble_eq_true rfl)⟩ (Nat.le_of_ble_eq_true rfl) (by decide) h (fun v152 M151 h => ?_)
        obtain ⟨hS153, h⟩ := h
        obtain ⟨c154, h⟩ := h
        refine sm_w.run t225 sr225 567 7 (M2 := M151) (f2 := (981, [some (.ref 0), some (.ref 23), some (.ref 116), some (.ref 164), some (.int (x4)), some (.int (v152)), none, none], [.int (iV M151 0 (x4 + (1 : Int32)).toNatClampNeg), .ref 116])) rfl ⟨(Nat.le_of_ble_eq_true rfl), trivial, trivial, trivial, trivial, trivial, (k0a hS153 c154), trivial⟩ ?_
        refine sm_w.cJ t225 sr225 574 (i := 193) (as := [.ref 116, .int (iV M151 0 (x4 + (1 : Int32)).toNatClampNeg)]) (g := (981, [some (.ref 0), some (.ref 23), some (.ref 116), some (.ref 164), some (.int (x4)), some (.int (v152)), none, none], [])) rfl ⟨by decide, by decide, (Nat.le_of_ble_eq_true rfl), (sm_K.g (k_116 hS153) (sm_sh.rf _)).1, (sm_K.g (k_116 hS153) (sm_sh.rf _)).2, (Nat.le_of_ble_eq_true rfl)⟩ (Nat.le_of_ble_eq_true rfl) (by decide) (sm_cJ.s (by decide) hS153 h) (fun v156 M155 h => ?_)
        obtain ⟨hS157, h⟩ := h
        refine sm_w.run t225 sr225 575 2 (M2 := M155) (f2 := (987, [some (.ref 0), some (.ref 23), some (.ref 116), some (.ref 164), some (.int (x4)), some (.int (v152)), some (.long (v156)), none], [.ref 116])) rfl ⟨(Nat.le_of_ble_eq_true rfl), trivial, trivial⟩ ?_
        refine sm_w.cI t225 sr225 577 (i := 161) (as := [.ref 116]) (g := (987, [some (.ref 0), some (.ref 23), some (.ref 116), some (.ref 164), some (.int (x4)), some (.int (v152)), some (.long (v156)), none], [])) rfl ⟨by decide, by decide, (Nat.le_of_ble_eq_true rfl), (sm_K.g (k_116 hS157) (sm_sh.rf _)).1, (sm_K.g (k_116 hS157) (sm_sh.rf _)).2, (Nat.le_of_ble_eq_true rfl)⟩ (Nat.le_of_ble_eq_true rfl) (by decide) (p161_c hS157) (fun vz M2 hz => ?_)
        obtain ⟨hz1, hz2⟩ := hz
        subst hz1
        have hz2 := hz2.symm
        subst hz2
        refine sm_w.run t225 sr225 578 2 (M2 := M155) (f2 := (if (p161_0 M155) = v152 then 997 else 995, [some (.ref 0), some (.ref 23), some (.ref 116), some (.ref 164), some (.int (x4)), some (.int (v152)), some (.long (v156)), none], [])) rfl ⟨trivial, trivial, trivial⟩ ?_
        refine sm_w.ite (fun hc => ?_) (fun hc => ?_)
        · have h := h.1 hc
          refine sm_w.run t225 sr225 582 2 (M2 := M155) (f2 := (if v152 = 0 then 1002 else 1013, [some (.ref 0), some (.ref 23), some (.ref 116), some (.ref 164), some (.int (x4)), some (.int (v152)), some (.long (v156)), none], [])) rfl ⟨trivial, trivial, trivial⟩ ?_
          refine sm_w.ite (fun hc => ?_) (fun hc => ?_)
          · have h := h.1 hc
            obtain ⟨c158, h⟩ := h
            refine sm_w.run t225 sr225 584 6 (M2 := M155) (f2 := (if (lg_cmp (jV M155 164 (0 : Int32).toNatClampNeg) v156) = 0 then 1013 else 1011, [some (.ref 0), some (.ref 23), some (.ref 116), some (.ref 164), some (.int (x4)), some (.int (v152)), some (.long (v156)), none], [])) rfl ⟨trivial, trivial, sm_K.a2 (k_164 hS157) (l_164 hS157) c158, trivial, trivial, trivial, trivial⟩ ?_
            refine sm_w.ite (fun hc => ?_) (fun hc => ?_)
            · have h := h.1 (lc_e.mp hc)
              refine sm_w.run t225 sr225 592 1 (M2 := M155) (f2 := (1127, [some (.ref 0), some (.ref 23), some (.ref 116), some (.ref 164), some (.int (x4)), some (.int (v152)), some (.long (v156)), none], [])) rfl ⟨trivial, trivial⟩ ?_
              refine sm_w.weak (ls := [some (.ref 0), some (.ref 23), some (.ref 116), some (.ref 164), some (.int (x4)), none, none, none]) (sm_leI [true, true, true, true, true, false, false, false] rfl) ?_
              exact h
            · have h := h.2 (fun z => hc (lc_e.mpr z))
              refine sm_w.run t225 sr225 590 1 (M2 := M155) (f2 := (1012, [some (.ref 0), some (.ref 23), some (.ref 116), some (.ref 164), some (.int (x4)), some (.int (v152)), some (.long (v156)), none], [.int ((0 : Int32))])) rfl ⟨trivial, trivial⟩ ?_
              exact sm_w.end t225 sr225 591 (o := .returned (some (.int ((0 : Int32))))) (M2 := M155) rfl rfl (by decide) (⟨_, rfl, h⟩)
          · have h := h.2 hc
            refine sm_w.run t225 sr225 592 1 (M2 := M155) (f2 := (1127, [some (.ref 0), some (.ref 23), some (.ref 116), some (.ref 164), some (.int (x4)), some (.int (v152)), some (.long (v156)), none], [])) rfl ⟨trivial, trivial⟩ ?_
            refine sm_w.weak (ls := [some (.ref 0), some (.ref 23), some (.ref 116), some (.ref 164), some (.int (x4)), none, none, none]) (sm_leI [true, true, true, true, true, false, false, false] rfl) ?_
            exact h
        · have h := h.2 hc
          refine sm_w.run t225 sr225 580 1 (M2 := M155) (f2 := (996, [some (.ref 0), some (.ref 23), some (.ref 116), some (.ref 164), some (.int (x4)), some (.int (v152)), some (.long (v156)), none], [.int ((0 : Int32))])) rfl ⟨trivial, trivial⟩ ?_
          exact sm_w.end t225 sr225 581 (o := .returned (some (.int ((0 : Int32))))) (M2 := M155) rfl rfl (by decide) (⟨_, rfl, h⟩)
      | 16, _, hc =>
        have h := h.2.2.2.2.2.2.2.2.2.2.2.2.2.2.2.2.1 hc
        obtain ⟨c159, h⟩ := h
        refine sm_w.run t225 sr225 593 7 (M2 := M) (f2 := (1024, [some (.ref 0), some (.ref 23), some (.ref 116), some (.ref 164), some (.int (x4)), none, none, none], [.ref 164, .int (iV M 0 (x4 + (1 : Int32)).toNatClampNeg), .ref 23])) rfl ⟨trivial, trivial, trivial, trivial, trivial, (k0a hS c159), trivial, trivial⟩ ?_
        refine sm_w.cI t225 sr225 600 (i := 156) (as := [.ref 23, .int (iV M 0 (x4 + (1 : Int32)).toNatClampNeg), .ref 164]) (g := (1024, [some (.ref 0), some (.ref 23), some (.ref 116), some (.ref 164), some (.int (x4)), none, none, none], [])) rfl ⟨(Nat.le_of_ble_eq_true rfl), (Nat.le_of_ble_eq_true rfl)⟩ (Nat.le_of_ble_eq_true rfl) (by decide) h (fun v161 M160 h => ?_)
        obtain ⟨hS162, h⟩ := h
        obtain ⟨c163, h⟩ := h
        refine sm_w.run t225 sr225 601 7 (M2 := M160) (f2 := (1036, [some (.ref 0), some (.ref 23), some (.ref 116), some (.ref 164), some (.int (x4)), some (.int (v161)), none, none], [.int (iV M160 0 (x4 + (1 : Int32)).toNatClampNeg), .ref 116])) rfl ⟨(Nat.le_of_ble_eq_true rfl), trivial, trivial, trivial, trivial, trivial, (k0a hS162 c163), trivial⟩ ?_
        refine sm_w.cJ t225 sr225 608 (i := 223) (as := [.ref 116, .int (iV M160 0 (x4 + (1 : Int32)).toNatClampNeg)]) (g := (1036, [some (.ref 0), some (.ref 23), some (.ref 116), some (.ref 164), some (.int (x4)), some (.int (v161)), none, none], [])) rfl ⟨by decide, by decide, (Nat.le_of_ble_eq_true rfl), (sm_K.g (k_116 hS162) (sm_sh.rf _)).1, (sm_K.g (k_116 hS162) (sm_sh.rf _)).2, (Nat.le_of_ble_eq_true rfl)⟩ (Nat.le_of_ble_eq_true rfl) (by decide) (sm_cJ.s (by decide) hS162 h) (fun v165 M164 h => ?_)
        obtain ⟨hS166, h⟩ := h
        refine sm_w.run t225 sr225 609 2 (M2 := M164) (f2 := (1042, [some (.ref 0), some (.ref 23), some (.ref 116), some (.ref 164), some (.int (x4)), some (.int (v161)), some (.long (v165)), none], [.ref 116])) rfl ⟨(Nat.le_of_ble_eq_true rfl), trivial, trivial⟩ ?_
        refine sm_w.cI t225 sr225 611 (i := 161) (as := [.ref 116]) (g := (1042, [some (.ref 0), some (.ref 23), some (.ref 116), some (.ref 164), some (.int (x4)), some (.int (v161)), some (.long (v165)), none], [])) rfl ⟨by decide, by decide, (Nat.le_of_ble_eq_true rfl), (sm_K.g (k_116 hS166) (sm_sh.rf _)).1, (sm_K.g (k_116 hS166) (sm_sh.rf _)).2, (Nat.le_of_ble_eq_true rfl)⟩ (Nat.le_of_ble_eq_true rfl) (by decide) (p161_c hS166) (fun vz M2 hz => ?_)
        obtain ⟨hz1, hz2⟩ := hz
        subst hz1
        have hz2 := hz2.symm
        subst hz2
        refine sm_w.run t225 sr225 612 2 (M2 := M164) (f2 := (if (p161_0 M164) = v161 then 1052 else 1050, [some (.ref 0), some (.ref 23), some (.ref 116), some (.ref 164), some (.int (x4)), some (.int (v161)), some (.long (v165)), none], [])) rfl ⟨trivial, trivial, trivial⟩ ?_
        refine sm_w.ite (fun hc => ?_) (fun hc => ?_)
        · have h := h.1 hc
          refine sm_w.run t225 sr225 616 2 (M2 := M164) (f2 := (if v161 = 0 then 1057 else 1068, [some (.ref 0), some (.ref 23), some (.ref 116), some (.ref 164), some (.int (x4)), some (.int (v161)), some (.long (v165)), none], [])) rfl ⟨trivial, trivial, trivial⟩ ?_
          refine sm_w.ite (fun hc => ?_) (fun hc => ?_)
          · have h := h.1 hc
            obtain ⟨c167, h⟩ := h
            refine sm_w.run t225 sr225 618 6 (M2 := M164) (f2 := (if (lg_cmp (jV M164 164 (0 : Int32).toNatClampNeg) v165) = 0 then 1068 else 1066, [some (.ref 0), some (.ref 23), some (.ref 116), some (.ref 164), some (.int (x4)), some (.int (v161)), some (.long (v165)), none], [])) rfl ⟨trivial, trivial, sm_K.a2 (k_164 hS166) (l_164 hS166) c167, trivial, trivial, trivial, trivial⟩ ?_
            refine sm_w.ite (fun hc => ?_) (fun hc => ?_)
            · have h := h.1 (lc_e.mp hc)
              refine sm_w.run t225 sr225 626 1 (M2 := M164) (f2 := (1127, [some (.ref 0), some (.ref 23), some (.ref 116), some (.ref 164), some (.int (x4)), some (.int (v161)), some (.long (v165)), none], [])) rfl ⟨trivial, trivial⟩ ?_
              refine sm_w.weak (ls := [some (.ref 0), some (.ref 23), some (.ref 116), some (.ref 164), some (.int (x4)), none, none, none]) (sm_leI [true, true, true, true, true, false, false, false] rfl) ?_
              exact h
            · have h := h.2 (fun z => hc (lc_e.mpr z))
              refine sm_w.run t225 sr225 624 1 (M2 := M164) (f2 := (1067, [some (.ref 0), some (.ref 23), some (.ref 116), some (.ref 164), some (.int (x4)), some (.int (v161)), some (.long (v165)), none], [.int ((0 : Int32))])) rfl ⟨trivial, trivial⟩ ?_
              exact sm_w.end t225 sr225 625 (o := .returned (some (.int ((0 : Int32))))) (M2 := M164) rfl rfl (by decide) (⟨_, rfl, h⟩)
          · have h := h.2 hc
            refine sm_w.run t225 sr225 626 1 (M2 := M164) (f2 := (1127, [some (.ref 0), some (.ref 23), some (.ref 116), some (.ref 164), some (.int (x4)), some (.int (v161)), some (.long (v165)), none], [])) rfl ⟨trivial, trivial⟩ ?_
            refine sm_w.weak (ls := [some (.ref 0), some (.ref 23), some (.ref 116), some (.ref 164), some (.int (x4)), none, none, none]) (sm_leI [true, true, true, true, true, false, false, false] rfl) ?_
            exact h
        · have h := h.2 hc
          refine sm_w.run t225 sr225 614 1 (M2 := M164) (f2 := (1051, [some (.ref 0), some (.ref 23), some (.ref 116), some (.ref 164), some (.int (x4)), some (.int (v161)), some (.long (v165)), none], [.int ((0 : Int32))])) rfl ⟨trivial, trivial⟩ ?_
          exact sm_w.end t225 sr225 615 (o := .returned (some (.int ((0 : Int32))))) (M2 := M164) rfl rfl (by decide) (⟨_, rfl, h⟩)
      | 17, _, hc =>
        have h := h.2.2.2.2.2.2.2.2.2.2.2.2.2.2.2.2.2.1 hc
        obtain ⟨c168, h⟩ := h
        refine sm_w.run t225 sr225 627 7 (M2 := M) (f2 := (1079, [some (.ref 0), some (.ref 23), some (.ref 116), some (.ref 164), some (.int (x4)), none, none, none], [.ref 164, .int (iV M 0 (x4 + (1 : Int32)).toNatClampNeg), .ref 23])) rfl ⟨trivial, trivial, trivial, trivial, trivial, (k0a hS c168), trivial, trivial⟩ ?_
        refine sm_w.cI t225 sr225 634 (i := 158) (as := [.ref 23, .int (iV M 0 (x4 + (1 : Int32)).toNatClampNeg), .ref 164]) (g := (1079, [some (.ref 0), some (.ref 23), some (.ref 116), some (.ref 164), some (.int (x4)), none, none, none], [])) rfl ⟨(Nat.le_of_ble_eq_true rfl), (Nat.le_of_ble_eq_true rfl)⟩ (Nat.le_of_ble_eq_true rfl) (by decide) h (fun v170 M169 h => ?_)
        obtain ⟨hS171, h⟩ := h
        obtain ⟨c172, h⟩ := h
        refine sm_w.run t225 sr225 635 7 (M2 := M169) (f2 := (1091, [some (.ref 0), some (.ref 23), some (.ref 116), some (.ref 164), some (.int (x4)), some (.int (v170)), none, none], [.int (iV M169 0 (x4 + (1 : Int32)).toNatClampNeg), .ref 116])) rfl ⟨(Nat.le_of_ble_eq_true rfl), trivial, trivial, trivial, trivial, trivial, (k0a hS171 c172), trivial⟩ ?_
        refine sm_w.cI t225 sr225 642 (i := 224) (as := [.ref 116, .int (iV M169 0 (x4 + (1 : Int32)).toNatClampNeg)]) (g := (1091, [some (.ref 0), some (.ref 23), some (.ref 116), some (.ref 164), some (.int (x4)), some (.int (v170)), none, none], [])) rfl ⟨by decide, by decide, (Nat.le_of_ble_eq_true rfl), (sm_K.g (k_116 hS171) (sm_sh.rf _)).1, (sm_K.g (k_116 hS171) (sm_sh.rf _)).2, (Nat.le_of_ble_eq_true rfl)⟩ (Nat.le_of_ble_eq_true rfl) (by decide) (sm_cI.s (by decide) hS171 h) (fun v174 M173 h => ?_)
        obtain ⟨hS175, h⟩ := h
        refine sm_w.run t225 sr225 643 2 (M2 := M173) (f2 := (1097, [some (.ref 0), some (.ref 23), some (.ref 116), some (.ref 164), some (.int (x4)), some (.int (v170)), some (.int (v174)), none], [.ref 116])) rfl ⟨(Nat.le_of_ble_eq_true rfl), trivial, trivial⟩ ?_
        refine sm_w.cI t225 sr225 645 (i := 161) (as := [.ref 116]) (g := (1097, [some (.ref 0), some (.ref 23), some (.ref 116), some (.ref 164), some (.int (x4)), some (.int (v170)), some (.int (v174)), none], [])) rfl ⟨by decide, by decide, (Nat.le_of_ble_eq_true rfl), (sm_K.g (k_116 hS175) (sm_sh.rf _)).1, (sm_K.g (k_116 hS175) (sm_sh.rf _)).2, (Nat.le_of_ble_eq_true rfl)⟩ (Nat.le_of_ble_eq_true rfl) (by decide) (p161_c hS175) (fun vz M2 hz => ?_)
        obtain ⟨hz1, hz2⟩ := hz
        subst hz1
        have hz2 := hz2.symm
        subst hz2
        refine sm_w.run t225 sr225 646 2 (M2 := M173) (f2 := (if (p161_0 M173) = v170 then 1107 else 1105, [some (.ref 0), some (.ref 23), some (.ref 116), some (.ref 164), some (.int (x4)), some (.int (v170)), some (.int (v174)), none], [])) rfl ⟨trivial, trivial, trivial⟩ ?_
        refine sm_w.ite (fun hc => ?_) (fun hc => ?_)
        · have h := h.1 hc
          refine sm_w.run t225 sr225 650 2 (M2 := M173) (f2 := (if v170 = 0 then 1112 else 1124, [some (.ref 0), some (.ref 23), some (.ref 116), some (.ref 164), some (.int (x4)), some (.int (v170)), some (.int (v174)), none], [])) rfl ⟨trivial, trivial, trivial⟩ ?_
          refine sm_w.ite (fun hc => ?_) (fun hc => ?_)
          · have h := h.1 hc
            obtain ⟨c176, h⟩ := h
            refine sm_w.run t225 sr225 652 7 (M2 := M173) (f2 := (if (lg_cmp (jV M173 164 (0 : Int32).toNatClampNeg) v174.toInt64) = 0 then 1124 else 1122, [some (.ref 0), some (.ref 23), some (.ref 116), some (.ref 164), some (.int (x4)), some (.int (v170)), some (.int (v174)), none], [])) rfl ⟨trivial, trivial, sm_K.a2 (k_164 hS175) (l_164 hS175) c176, trivial, trivial, trivial, trivial, trivial⟩ ?_
            refine sm_w.ite (fun hc => ?_) (fun hc => ?_)
            · have h := h.1 (lc_e.mp hc)
              refine sm_w.run t225 sr225 661 1 (M2 := M173) (f2 := (1127, [some (.ref 0), some (.ref 23), some (.ref 116), some (.ref 164), some (.int (x4)), some (.int (v170)), some (.int (v174)), none], [])) rfl ⟨trivial, trivial⟩ ?_
              refine sm_w.weak (ls := [some (.ref 0), some (.ref 23), some (.ref 116), some (.ref 164), some (.int (x4)), none, none, none]) (sm_leI [true, true, true, true, true, false, false, false] rfl) ?_
              exact h
            · have h := h.2 (fun z => hc (lc_e.mpr z))
              refine sm_w.run t225 sr225 659 1 (M2 := M173) (f2 := (1123, [some (.ref 0), some (.ref 23), some (.ref 116), some (.ref 164), some (.int (x4)), some (.int (v170)), some (.int (v174)), none], [.int ((0 : Int32))])) rfl ⟨trivial, trivial⟩ ?_
              exact sm_w.end t225 sr225 660 (o := .returned (some (.int ((0 : Int32))))) (M2 := M173) rfl rfl (by decide) (⟨_, rfl, h⟩)
          · have h := h.2 hc
            refine sm_w.run t225 sr225 661 1 (M2 := M173) (f2 := (1127, [some (.ref 0), some (.ref 23), some (.ref 116), some (.ref 164), some (.int (x4)), some (.int (v170)), some (.int (v174)), none], [])) rfl ⟨trivial, trivial⟩ ?_
            refine sm_w.weak (ls := [some (.ref 0), some (.ref 23), some (.ref 116), some (.ref 164), some (.int (x4)), none, none, none]) (sm_leI [true, true, true, true, true, false, false, false] rfl) ?_
            exact h
        · have h := h.2 hc
          refine sm_w.run t225 sr225 648 1 (M2 := M173) (f2 := (1106, [some (.ref 0), some (.ref 23), some (.ref 116), some (.ref 164), some (.int (x4)), some (.int (v170)), some (.int (v174)), none], [.int ((0 : Int32))])) rfl ⟨trivial, trivial⟩ ?_
          exact sm_w.end t225 sr225 649 (o := .returned (some (.int ((0 : Int32))))) (M2 := M173) rfl rfl (by decide) (⟨_, rfl, h⟩)
      | k + 18, hi, _ => exact absurd hi (by omega)
set_option maxRecDepth 20000 in
theorem g225_2 {M : sm_M} {x4 : Int32} {K : Int32 → sm_M → Prop} (hS : SH M)  (h : sm_w 225 (23, [some (.ref 0), some (.ref 23), some (.ref 116), some (.ref 164), some (.int (x4 + (6 : Int32))), none, none, none], []) M (rI K)) : sm_w 225 (1127, [some (.ref 0), some (.ref 23), some (.ref 116), some (.ref 164), some (.int (x4)), none, none, none], []) M (rI K) := by
  refine sm_w.run t225 sr225 662 2 (M2 := M) (f2 := (23, [some (.ref 0), some (.ref 23), some (.ref 116), some (.ref 164), some (.int (x4 + (6 : Int32))), none, none, none], [])) rfl ⟨(Nat.le_of_ble_eq_true rfl), trivial, trivial⟩ ?_
  exact h

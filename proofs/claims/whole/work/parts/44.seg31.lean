/-! METHODS by their segments. -/
-- 184 LineSetterModel.oneWord()V
theorem t184 : sP 184 = (3, sp_184, sh_184) := rfl
theorem sr184 : sm_srt sp_184 = true := by decide +kernel
theorem g184_0 {M : sm_M}  {K : sm_M → Prop} (hS : SH M)  (h : (vp_in (iV M 116 49) 8192) ∧ (((iV M 118 (iV M 116 49).toNatClampNeg) = (61 : Int32) → sm_cV 185 [.ref 116, .int (iV M 116 49), .int (iV M 116 50)] M (fun M2 => SH M2 → K M2)) ∧ (¬ (iV M 118 (iV M 116 49).toNatClampNeg) = (61 : Int32) → ((((iV M 116 50) - (iV M 116 49)) = (4 : Int32) → (vp_in (iV M 116 49) 8192) ∧ (((iV M 118 (iV M 116 49).toNatClampNeg) = (101 : Int32) → (vp_in ((iV M 116 49) + (1 : Int32)) 8192) ∧ (((iV M 118 ((iV M 116 49) + (1 : Int32)).toNatClampNeg) = (110 : Int32) → (vp_in ((iV M 116 49) + (2 : Int32)) 8192) ∧ (((iV M 118 ((iV M 116 49) + (2 : Int32)).toNatClampNeg) = (100 : Int32) → (vp_in ((iV M 116 49) + (3 : Int32)) 8192) ∧ (((iV M 118 ((iV M 116 49) + (3 : Int32)).toNatClampNeg) = (115 : Int32) → sm_cV 183 [.ref 116] M (fun M9 => SH M9 → (((iV M9 116 8) < 0 → ((((iV M9 116 50) - (iV M9 116 49)) = (2 : Int32) → (vp_in (iV M9 116 49) 8192) ∧ (((p187_0 M9 (iV M9 118 (iV M9 116 49).toNatClampNeg)) = 0 → sm_cV 177 [.ref 116, .int (iV M9 116 49)] M9 (fun M13 => SH M13 → K M13)) ∧ (¬ (p187_0 M9 (iV M9 118 (iV M9 116 49).toNatClampNeg)) = 0 → (vp_in ((iV M9 116 49) + (1 : Int32)) 8192) ∧ (((p187_0 M9 (iV M9 118 ((iV M9 116 49) + (1 : Int32)).toNatClampNeg)) = 0 → sm_cV 177 [.ref 116, .int (iV M9 116 49)] M9 (fun M17 => SH M17 → K M17)) ∧ (¬ (p187_0 M9 (iV M9 118 ((iV M9 116 49) + (1 : Int32)).toNatClampNeg)) = 0 → (vp_in (iV M9 116 49) 8192) ∧ ∀ M21, SH M21 → M21 = sm_wI M9 116 35 ((iV M9 118 (iV M9 116 49).toNatClampNeg) - (48 : Int32)) → (vp_in ((iV M21 116 49) + (1 : Int32)) 8192) ∧ ∀ M24, SH M24 → M24 = sm_wI M21 116 36 ((iV M21 118 ((iV M21 116 49) + (1 : Int32)).toNatClampNeg) - (48 : Int32)) → K M24))))) ∧ (¬ ((iV M9 116 50) - (iV M9 116 49)) = (2 : Int32) → sm_cV 177 [.ref 116, .int (iV M9 116 49)] M9 (fun M26 => SH M26 → K M26)))) ∧ (¬ (iV M9 116 8) < 0 → K M9)))) ∧ (¬ (iV M 118 ((iV M 116 49) + (3 : Int32)).toNatClampNeg) = (115 : Int32) → sm_w 184 (196, [some (.ref 116), some (.int (iV M 116 49)), none], []) M (rV K)))) ∧ (¬ (iV M 118 ((iV M 116 49) + (2 : Int32)).toNatClampNeg) = (100 : Int32) → sm_w 184 (196, [some (.ref 116), some (.int (iV M 116 49)), none], []) M (rV K)))) ∧ (¬ (iV M 118 ((iV M 116 49) + (1 : Int32)).toNatClampNeg) = (110 : Int32) → sm_w 184 (196, [some (.ref 116), some (.int (iV M 116 49)), none], []) M (rV K)))) ∧ (¬ (iV M 118 (iV M 116 49).toNatClampNeg) = (101 : Int32) → sm_w 184 (196, [some (.ref 116), some (.int (iV M 116 49)), none], []) M (rV K)))) ∧ (¬ ((iV M 116 50) - (iV M 116 49)) = (4 : Int32) → sm_w 184 (196, [some (.ref 116), some (.int (iV M 116 49)), none], []) M (rV K)))))) : sm_w 184 (sm_in sP 184 [.ref 116]) M (rV K) := by
  show sm_w 184 (0, [some (.ref 116), none, none], []) M (rV K)
  refine sm_w.run t184 sr184 0 11 (M2 := M) (f2 := (19, [some (.ref 116), some (.int (iV M 116 49)), some (.int ((iV M 116 50) - (iV M 116 49)))], [va_rf (sm_rv M 116 2)])) rfl ⟨trivial, sm_K.g (k_116 hS) (sm_sh.rf _), (Nat.le_of_ble_eq_true rfl), trivial, sm_K.g (k_116 hS) (sm_sh.rf _), trivial, sm_K.g (k_116 hS) (sm_sh.rf _), trivial, (Nat.le_of_ble_eq_true rfl), trivial, sm_K.g (k_116 hS) (sm_sh.rf _), trivial⟩ ?_
  refine sm_w.fld (r_116_2 hS) ?_
  obtain ⟨c1, h⟩ := h
  refine sm_w.run t184 sr184 11 4 (M2 := M) (f2 := (if (iV M 118 (iV M 116 49).toNatClampNeg) = (61 : Int32) then 26 else 38, [some (.ref 116), some (.int (iV M 116 49)), some (.int ((iV M 116 50) - (iV M 116 49)))], [])) rfl ⟨trivial, sm_K.a2 (k_118 hS) (l_118 hS) c1, trivial, trivial, trivial⟩ ?_
  refine sm_w.ite (fun hc => ?_) (fun hc => ?_)
  · have h := h.1 hc
    refine sm_w.run t184 sr184 15 4 (M2 := M) (f2 := (32, [some (.ref 116), some (.int (iV M 116 49)), some (.int ((iV M 116 50) - (iV M 116 49)))], [.int (iV M 116 50), .int (iV M 116 49), .ref 116])) rfl ⟨trivial, trivial, trivial, sm_K.g (k_116 hS) (sm_sh.rf _), trivial⟩ ?_
    refine sm_w.cV t184 sr184 19 (i := 185) (as := [.ref 116, .int (iV M 116 49), .int (iV M 116 50)]) (g := (32, [some (.ref 116), some (.int (iV M 116 49)), some (.int ((iV M 116 50) - (iV M 116 49)))], [])) rfl ⟨by decide, by decide, (Nat.le_of_ble_eq_true rfl), (sm_K.g (k_116 hS) (sm_sh.rf _)).1, (sm_K.g (k_116 hS) (sm_sh.rf _)).2, (Nat.le_of_ble_eq_true rfl)⟩ (Nat.le_of_ble_eq_true rfl) (by decide) (sm_cV.s (by decide) hS h) (fun M2 h => ?_)
    obtain ⟨hS4, h⟩ := h
    refine sm_w.run t184 sr184 20 1 (M2 := M2) (f2 := (205, [some (.ref 116), some (.int (iV M 116 49)), some (.int ((iV M 116 50) - (iV M 116 49)))], [])) rfl ⟨trivial, trivial⟩ ?_
    exact sm_w.end t184 sr184 114 (o := .returned none) (M2 := M2) rfl trivial (by decide) (⟨rfl, h⟩)
  · have h := h.2 hc
    refine sm_w.run t184 sr184 21 3 (M2 := M) (f2 := (if ((iV M 116 50) - (iV M 116 49)) = (4 : Int32) then 43 else 196, [some (.ref 116), some (.int (iV M 116 49)), some (.int ((iV M 116 50) - (iV M 116 49)))], [])) rfl ⟨trivial, trivial, trivial, trivial⟩ ?_
    refine sm_w.ite (fun hc => ?_) (fun hc => ?_)
    · have h := h.1 hc
      refine sm_w.run t184 sr184 24 2 (M2 := M) (f2 := (47, [some (.ref 116), some (.int (iV M 116 49)), some (.int ((iV M 116 50) - (iV M 116 49)))], [va_rf (sm_rv M 116 2)])) rfl ⟨trivial, sm_K.g (k_116 hS) (sm_sh.rf _), trivial⟩ ?_
      refine sm_w.fld (r_116_2 hS) ?_
      obtain ⟨c5, h⟩ := h
      refine sm_w.run t184 sr184 26 4 (M2 := M) (f2 := (if (iV M 118 (iV M 116 49).toNatClampNeg) = (101 : Int32) then 54 else 196, [some (.ref 116), some (.int (iV M 116 49)), some (.int ((iV M 116 50) - (iV M 116 49)))], [])) rfl ⟨trivial, sm_K.a2 (k_118 hS) (l_118 hS) c5, trivial, trivial, trivial⟩ ?_
      refine sm_w.ite (fun hc => ?_) (fun hc => ?_)
      · have h := h.1 hc
        refine sm_w.run t184 sr184 30 2 (M2 := M) (f2 := (58, [some (.ref 116), some (.int (iV M 116 49)), some (.int ((iV M 116 50) - (iV M 116 49)))], [va_rf (sm_rv M 116 2)])) rfl ⟨trivial, sm_K.g (k_116 hS) (sm_sh.rf _), trivial⟩ ?_
        refine sm_w.fld (r_116_2 hS) ?_
        obtain ⟨c6, h⟩ := h
        refine sm_w.run t184 sr184 32 6 (M2 := M) (f2 := (if (iV M 118 ((iV M 116 49) + (1 : Int32)).toNatClampNeg) = (110 : Int32) then 67 else 196, [some (.ref 116), some (.int (iV M 116 49)), some (.int ((iV M 116 50) - (iV M 116 49)))], [])) rfl ⟨trivial, trivial, trivial, sm_K.a2 (k_118 hS) (l_118 hS) c6, trivial, trivial, trivial⟩ ?_
        refine sm_w.ite (fun hc => ?_) (fun hc => ?_)
        · have h := h.1 hc
          refine sm_w.run t184 sr184 38 2 (M2 := M) (f2 := (71, [some (.ref 116), some (.int (iV M 116 49)), some (.int ((iV M 116 50) - (iV M 116 49)))], [va_rf (sm_rv M 116 2)])) rfl ⟨trivial, sm_K.g (k_116 hS) (sm_sh.rf _), trivial⟩ ?_
          refine sm_w.fld (r_116_2 hS) ?_
          obtain ⟨c7, h⟩ := h
          refine sm_w.run t184 sr184 40 6 (M2 := M) (f2 := (if (iV M 118 ((iV M 116 49) + (2 : Int32)).toNatClampNeg) = (100 : Int32) then 80 else 196, [some (.ref 116), some (.int (iV M 116 49)), some (.int ((iV M 116 50) - (iV M 116 49)))], [])) rfl ⟨trivial, trivial, trivial, sm_K.a2 (k_118 hS) (l_118 hS) c7, trivial, trivial, trivial⟩ ?_
          refine sm_w.ite (fun hc => ?_) (fun hc => ?_)
          · have h := h.1 hc
            refine sm_w.run t184 sr184 46 2 (M2 := M) (f2 := (84, [some (.ref 116), some (.int (iV M 116 49)), some (.int ((iV M 116 50) - (iV M 116 49)))], [va_rf (sm_rv M 116 2)])) rfl ⟨trivial, sm_K.g (k_116 hS) (sm_sh.rf _), trivial⟩ ?_
            refine sm_w.fld (r_116_2 hS) ?_
            obtain ⟨c8, h⟩ := h
            refine sm_w.run t184 sr184 48 6 (M2 := M) (f2 := (if (iV M 118 ((iV M 116 49) + (3 : Int32)).toNatClampNeg) = (115 : Int32) then 93 else 196, [some (.ref 116), some (.int (iV M 116 49)), some (.int ((iV M 116 50) - (iV M 116 49)))], [])) rfl ⟨trivial, trivial, trivial, sm_K.a2 (k_118 hS) (l_118 hS) c8, trivial, trivial, trivial⟩ ?_
            refine sm_w.ite (fun hc => ?_) (fun hc => ?_)
            · have h := h.1 hc
              refine sm_w.run t184 sr184 54 1 (M2 := M) (f2 := (94, [some (.ref 116), some (.int (iV M 116 49)), some (.int ((iV M 116 50) - (iV M 116 49)))], [.ref 116])) rfl ⟨trivial, trivial⟩ ?_
              refine sm_w.cV t184 sr184 55 (i := 183) (as := [.ref 116]) (g := (94, [some (.ref 116), some (.int (iV M 116 49)), some (.int ((iV M 116 50) - (iV M 116 49)))], [])) rfl ⟨by decide, by decide, (Nat.le_of_ble_eq_true rfl), (sm_K.g (k_116 hS) (sm_sh.rf _)).1, (sm_K.g (k_116 hS) (sm_sh.rf _)).2, (Nat.le_of_ble_eq_true rfl)⟩ (Nat.le_of_ble_eq_true rfl) (by decide) (sm_cV.s (by decide) hS h) (fun M9 h => ?_)
              obtain ⟨hS11, h⟩ := h
              refine sm_w.run t184 sr184 56 3 (M2 := M9) (f2 := (if (iV M9 116 8) < 0 then 105 else 104, [some (.ref 116), some (.int (iV M 116 49)), some (.int ((iV M 116 50) - (iV M 116 49)))], [])) rfl ⟨trivial, sm_K.g (k_116 hS11) (sm_sh.rf _), trivial, trivial⟩ ?_
              refine sm_w.ite (fun hc => ?_) (fun hc => ?_)
              · have h := h.1 hc
                refine sm_w.run t184 sr184 60 7 (M2 := M9) (f2 := (if ((iV M9 116 50) - (iV M9 116 49)) = (2 : Int32) then 118 else 150, [some (.ref 116), some (.int (iV M 116 49)), some (.int ((iV M 116 50) - (iV M 116 49)))], [])) rfl ⟨trivial, sm_K.g (k_116 hS11) (sm_sh.rf _), trivial, sm_K.g (k_116 hS11) (sm_sh.rf _), trivial, trivial, trivial, trivial⟩ ?_
                refine sm_w.ite (fun hc => ?_) (fun hc => ?_)
                · have h := h.1 hc
                  refine sm_w.run t184 sr184 67 2 (M2 := M9) (f2 := (122, [some (.ref 116), some (.int (iV M 116 49)), some (.int ((iV M 116 50) - (iV M 116 49)))], [va_rf (sm_rv M9 116 2)])) rfl ⟨trivial, sm_K.g (k_116 hS11) (sm_sh.rf _), trivial⟩ ?_
                  refine sm_w.fld (r_116_2 hS11) ?_
                  obtain ⟨c12, h⟩ := h
                  refine sm_w.run t184 sr184 69 3 (M2 := M9) (f2 := (127, [some (.ref 116), some (.int (iV M 116 49)), some (.int ((iV M 116 50) - (iV M 116 49)))], [.int (iV M9 118 (iV M9 116 49).toNatClampNeg)])) rfl ⟨trivial, sm_K.g (k_116 hS11) (sm_sh.rf _), sm_K.a2 (k_118 hS11) (l_118 hS11) c12, trivial⟩ ?_
                  refine sm_w.cI t184 sr184 72 (i := 187) (as := [.int (iV M9 118 (iV M9 116 49).toNatClampNeg)]) (g := (127, [some (.ref 116), some (.int (iV M 116 49)), some (.int ((iV M 116 50) - (iV M 116 49)))], [])) rfl ⟨(Nat.le_of_ble_eq_true rfl), (Nat.le_of_ble_eq_true rfl)⟩ (Nat.le_of_ble_eq_true rfl) (by decide) (p187_c hS11) (fun vz M2 hz => ?_)
                  obtain ⟨hz1, hz2⟩ := hz
                  subst hz1
                  have hz2 := hz2.symm
                  subst hz2
                  refine sm_w.run t184 sr184 73 1 (M2 := M9) (f2 := (if (p187_0 M9 (iV M9 118 (iV M9 116 49).toNatClampNeg)) = 0 then 150 else 133, [some (.ref 116), some (.int (iV M 116 49)), some (.int ((iV M 116 50) - (iV M 116 49)))], [])) rfl ⟨trivial, trivial⟩ ?_
                  refine sm_w.ite (fun hc => ?_) (fun hc => ?_)
                  · have h := h.1 hc
                    refine sm_w.run t184 sr184 83 3 (M2 := M9) (f2 := (155, [some (.ref 116), some (.int (iV M 116 49)), some (.int ((iV M 116 50) - (iV M 116 49)))], [.int (iV M9 116 49), .ref 116])) rfl ⟨trivial, trivial, sm_K.g (k_116 hS11) (sm_sh.rf _), trivial⟩ ?_
                    refine sm_w.cV t184 sr184 86 (i := 177) (as := [.ref 116, .int (iV M9 116 49)]) (g := (155, [some (.ref 116), some (.int (iV M 116 49)), some (.int ((iV M 116 50) - (iV M 116 49)))], [])) rfl ⟨by decide, by decide, (Nat.le_of_ble_eq_true rfl), (sm_K.g (k_116 hS11) (sm_sh.rf _)).1, (sm_K.g (k_116 hS11) (sm_sh.rf _)).2, (Nat.le_of_ble_eq_true rfl)⟩ (Nat.le_of_ble_eq_true rfl) (by decide) (sm_cV.s (by decide) hS11 h) (fun M13 h => ?_)
                    obtain ⟨hS15, h⟩ := h
                    exact sm_w.end t184 sr184 87 (o := .returned none) (M2 := M13) rfl trivial (by decide) (⟨rfl, h⟩)
                  · have h := h.2 hc
                    refine sm_w.run t184 sr184 74 2 (M2 := M9) (f2 := (137, [some (.ref 116), some (.int (iV M 116 49)), some (.int ((iV M 116 50) - (iV M 116 49)))], [va_rf (sm_rv M9 116 2)])) rfl ⟨trivial, sm_K.g (k_116 hS11) (sm_sh.rf _), trivial⟩ ?_
                    refine sm_w.fld (r_116_2 hS11) ?_
                    obtain ⟨c16, h⟩ := h
                    refine sm_w.run t184 sr184 76 5 (M2 := M9) (f2 := (144, [some (.ref 116), some (.int (iV M 116 49)), some (.int ((iV M 116 50) - (iV M 116 49)))], [.int (iV M9 118 ((iV M9 116 49) + (1 : Int32)).toNatClampNeg)])) rfl ⟨trivial, sm_K.g (k_116 hS11) (sm_sh.rf _), trivial, trivial, sm_K.a2 (k_118 hS11) (l_118 hS11) c16, trivial⟩ ?_
                    refine sm_w.cI t184 sr184 81 (i := 187) (as := [.int (iV M9 118 ((iV M9 116 49) + (1 : Int32)).toNatClampNeg)]) (g := (144, [some (.ref 116), some (.int (iV M 116 49)), some (.int ((iV M 116 50) - (iV M 116 49)))], [])) rfl ⟨(Nat.le_of_ble_eq_true rfl), (Nat.le_of_ble_eq_true rfl)⟩ (Nat.le_of_ble_eq_true rfl) (by decide) (p187_c hS11) (fun vz M2 hz => ?_)
                    obtain ⟨hz1, hz2⟩ := hz
                    subst hz1
                    have hz2 := hz2.symm
                    subst hz2
                    refine sm_w.run t184 sr184 82 1 (M2 := M9) (f2 := (if (p187_0 M9 (iV M9 118 ((iV M9 116 49) + (1 : Int32)).toNatClampNeg)) = 0 then 150 else 159, [some (.ref 116), some (.int (iV M 116 49)), some (.int ((iV M 116 50) - (iV M 116 49)))], [])) rfl ⟨trivial, trivial⟩ ?_
                    refine sm_w.ite (fun hc => ?_) (fun hc => ?_)
                    · have h := h.1 hc
                      refine sm_w.run t184 sr184 83 3 (M2 := M9) (f2 := (155, [some (.ref 116), some (.int (iV M 116 49)), some (.int ((iV M 116 50) - (iV M 116 49)))], [.int (iV M9 116 49), .ref 116])) rfl ⟨trivial, trivial, sm_K.g (k_116 hS11) (sm_sh.rf _), trivial⟩ ?_
                      refine sm_w.cV t184 sr184 86 (i := 177) (as := [.ref 116, .int (iV M9 116 49)]) (g := (155, [some (.ref 116), some (.int (iV M 116 49)), some (.int ((iV M 116 50) - (iV M 116 49)))], [])) rfl ⟨by decide, by decide, (Nat.le_of_ble_eq_true rfl), (sm_K.g (k_116 hS11) (sm_sh.rf _)).1, (sm_K.g (k_116 hS11) (sm_sh.rf _)).2, (Nat.le_of_ble_eq_true rfl)⟩ (Nat.le_of_ble_eq_true rfl) (by decide) (sm_cV.s (by decide) hS11 h) (fun M17 h => ?_)
                      obtain ⟨hS19, h⟩ := h
                      exact sm_w.end t184 sr184 87 (o := .returned none) (M2 := M17) rfl trivial (by decide) (⟨rfl, h⟩)
                    · have h := h.2 hc
                      refine sm_w.run t184 sr184 88 3 (M2 := M9) (f2 := (164, [some (.ref 116), some (.int (iV M 116 49)), some (.int ((iV M 116 50) - (iV M 116 49)))], [va_rf (sm_rv M9 116 2), .ref 116])) rfl ⟨trivial, trivial, sm_K.g (k_116 hS11) (sm_sh.rf _), trivial⟩ ?_
                      refine sm_w.fld (r_116_2 hS11) ?_
                      obtain ⟨c20, h⟩ := h
                      refine sm_w.run t184 sr184 91 6 (M2 := sm_wI M9 116 35 ((iV M9 118 (iV M9 116 49).toNatClampNeg) - (48 : Int32))) (f2 := (175, [some (.ref 116), some (.int (iV M 116 49)), some (.int ((iV M 116 50) - (iV M 116 49)))], [])) rfl ⟨trivial, sm_K.g (k_116 hS11) (sm_sh.rf _), sm_K.a2 (k_118 hS11) (l_118 hS11) c20, trivial, trivial, ⟨(sm_K.p (k_116 hS11) (sm_sh.rf _)).1, (sm_K.p (k_116 hS11) (sm_sh.rf _)).2.1, (sm_K.p (k_116 hS11) (sm_sh.rf _)).2.2, Or.inl rfl⟩, trivial⟩ ?_
                      have hS22 : SH (sm_wI M9 116 35 ((iV M9 118 (iV M9 116 49).toNatClampNeg) - (48 : Int32))) := SH.wI hS11 _ _ _
                      have h := h _ hS22 rfl
                      generalize sm_wI M9 116 35 ((iV M9 118 (iV M9 116 49).toNatClampNeg) - (48 : Int32)) = M21 at h hS22 ⊢
                      refine sm_w.run t184 sr184 97 3 (M2 := M21) (f2 := (180, [some (.ref 116), some (.int (iV M 116 49)), some (.int ((iV M 116 50) - (iV M 116 49)))], [va_rf (sm_rv M21 116 2), .ref 116])) rfl ⟨trivial, trivial, sm_K.g (k_116 hS22) (sm_sh.rf _), trivial⟩ ?_
                      refine sm_w.fld (r_116_2 hS22) ?_
                      obtain ⟨c23, h⟩ := h
                      refine sm_w.run t184 sr184 100 8 (M2 := sm_wI M21 116 36 ((iV M21 118 ((iV M21 116 49) + (1 : Int32)).toNatClampNeg) - (48 : Int32))) (f2 := (193, [some (.ref 116), some (.int (iV M 116 49)), some (.int ((iV M 116 50) - (iV M 116 49)))], [])) rfl ⟨trivial, sm_K.g (k_116 hS22) (sm_sh.rf _), trivial, trivial, sm_K.a2 (k_118 hS22) (l_118 hS22) c23, trivial, trivial, ⟨(sm_K.p (k_116 hS22) (sm_sh.rf _)).1, (sm_K.p (k_116 hS22) (sm_sh.rf _)).2.1, (sm_K.p (k_116 hS22) (sm_sh.rf _)).2.2, Or.inl rfl⟩, trivial⟩ ?_
                      have hS25 : SH (sm_wI M21 116 36 ((iV M21 118 ((iV M21 116 49) + (1 : Int32)).toNatClampNeg) - (48 : Int32))) := SH.wI hS22 _ _ _
                      have h := h _ hS25 rfl
                      generalize sm_wI M21 116 36 ((iV M21 118 ((iV M21 116 49) + (1 : Int32)).toNatClampNeg) - (48 : Int32)) = M24 at h hS25 ⊢
                      refine sm_w.run t184 sr184 108 1 (M2 := M24) (f2 := (205, [some (.ref 116), some (.int (iV M 116 49)), some (.int ((iV M 116 50) - (iV M 116 49)))], [])) rfl ⟨trivial, trivial⟩ ?_
                      exact sm_w.end t184 sr184 114 (o := .returned none) (M2 := M24) rfl trivial (by decide) (⟨rfl, h⟩)
                · have h := h.2 hc
                  refine sm_w.run t184 sr184 83 3 (M2 := M9) (f2 := (155, [some (.ref 116), some (.int (iV M 116 49)), some (.int ((iV M 116 50) - (iV M 116 49)))], [.int (iV M9 116 49), .ref 116])) rfl ⟨trivial, trivial, sm_K.g (k_116 hS11) (sm_sh.rf _), trivial⟩ ?_
                  refine sm_w.cV t184 sr184 86 (i := 177) (as := [.ref 116, .int (iV M9 116 49)]) (g := (155, [some (.ref 116), some (.int (iV M 116 49)), some (.int ((iV M 116 50) - (iV M 116 49)))], [])) rfl ⟨by decide, by decide, (Nat.le_of_ble_eq_true rfl), (sm_K.g (k_116 hS11) (sm_sh.rf _)).1, (sm_K.g (k_116 hS11) (sm_sh.rf _)).2, (Nat.le_of_ble_eq_true rfl)⟩ (Nat.le_of_ble_eq_true rfl) (by decide) (sm_cV.s (by decide) hS11 h) (fun M26 h => ?_)
                  obtain ⟨hS28, h⟩ := h
                  exact sm_w.end t184 sr184 87 (o := .returned none) (M2 := M26) rfl trivial (by decide) (⟨rfl, h⟩)
              · have h := h.2 hc
                exact sm_w.end t184 sr184 59 (o := .returned none) (M2 := M9) rfl trivial (by decide) (⟨rfl, h⟩)
            · have h := h.2 hc
              refine sm_w.weak (ls := [some (.ref 116), some (.int (iV M 116 49)), none]) (sm_leI [true, true, false] rfl) ?_
              exact h
          · have h := h.2 hc
            refine sm_w.weak (ls := [some (.ref 116), some (.int (iV M 116 49)), none]) (sm_leI [true, true, false] rfl) ?_
            exact h
        · have h := h.2 hc
          refine sm_w.weak (ls := [some (.ref 116), some (.int (iV M 116 49)), none]) (sm_leI [true, true, false] rfl) ?_
          exact h
      · have h := h.2 hc
        refine sm_w.weak (ls := [some (.ref 116), some (.int (iV M 116 49)), none]) (sm_leI [true, true, false] rfl) ?_
        exact h
    · have h := h.2 hc
      refine sm_w.weak (ls := [some (.ref 116), some (.int (iV M 116 49)), none]) (sm_leI [true, true, false] rfl) ?_
      exact h
theorem g184_1 {M : sm_M} {x1 : Int32} {K : sm_M → Prop} (hS : SH M)  (h : sm_cV 188 [.ref 116, .int (x1), .int (iV M 116 50)] M (fun M1 => SH M1 → K M1)) : sm_w 184 (196, [some (.ref 116), some (.int (x1)), none], []) M (rV K) := by
  refine sm_w.run t184 sr184 109 4 (M2 := M) (f2 := (202, [some (.ref 116), some (.int (x1)), none], [.int (iV M 116 50), .int (x1), .ref 116])) rfl ⟨trivial, trivial, trivial, sm_K.g (k_116 hS) (sm_sh.rf _), trivial⟩ ?_
  refine sm_w.cV t184 sr184 113 (i := 188) (as := [.ref 116, .int (x1), .int (iV M 116 50)]) (g := (202, [some (.ref 116), some (.int (x1)), none], [])) rfl ⟨by decide, by decide, (Nat.le_of_ble_eq_true rfl), (sm_K.g (k_116 hS) (sm_sh.rf _)).1, (sm_K.g (k_116 hS) (sm_sh.rf _)).2, (Nat.le_of_ble_eq_true rfl)⟩ (Nat.le_of_ble_eq_true rfl) (by decide) (sm_cV.s (by decide) hS h) (fun M1 h => ?_)
  obtain ⟨hS3, h⟩ := h
  exact sm_w.end t184 sr184 114 (o := .returned none) (M2 := M1) rfl trivial (by decide) (⟨rfl, h⟩)

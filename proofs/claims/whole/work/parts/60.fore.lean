/-! Pairs: foretold. -/
set_option maxRecDepth 20000 in
theorem s_X7_foretell {E : Ex} {μ : Mem} {Q : Option Vl → Mem → Prop} {x1 : Int}  (h : (14 + 10 ≤ 4 ∨ 4 + 10 ≤ 14) ∧ (μ 4 0 = 0 ∨ μ 4 0 = 1) ∧ ∀ μ3 : Mem, chC μ μ3 14 (tkC (cv μ 14) (cv μ 4)) → (RgC μ3 14) ∧ (RoOk E) ∧ (VC (cv μ3 14)) ∧ (0 ≤ ((μ3 4 4) + 300) ∧ ((μ3 4 4) + 300) ≤ 900000) ∧ ∀ μ8 : Mem, chC μ3 μ8 14 (cSeats (cv μ3 14) ((μ3 4 4) + 300) x1) → Q (some (.inr 14)) μ8) : Cl E 5 M_X7_foretell [.inr 0, .inl x1] μ Q := by
  show Gg E 5 M_X7_foretell 0 [some (.inr 0), some (.inl x1)] [] μ Q
  refine r_aloadn (q := 1) DM_X7_foretell_0 rfl rfl ?_
  refine r_getR (q := 4) (r := 14) DM_X7_foretell_1 rfl fRX7_29 sh_0 rfl ?_
  refine r_aloadn (q := 5) DM_X7_foretell_4 rfl rfl ?_
  refine r_getR (q := 8) (r := 4) DM_X7_foretell_5 rfl fRX7_25 sh_0 rfl ?_
  have i1 := h.1
  replace h := h.2
  have i2 := h.1
  replace h := h.2
  refine r_callVv [.inr 4] (q := 11) DM_X7_foretell_8 rfl kM_X2_takeFrom lRX7_130 (co0 cK_14) rfl rfl (by decide) (Nat.le_of_ble_eq_true rfl) rfl (k_X2_takeFrom cK_14 cK_4 i1 i2 (fun μ3 e3 => ⟨rfl, ?_⟩))
  replace h := h μ3 e3
  refine r_aloadn (q := 12) DM_X7_foretell_11 rfl rfl ?_
  refine r_getR (q := 15) (r := 14) DM_X7_foretell_12 rfl fRX7_29 sh_0 rfl ?_
  refine r_aloadn (q := 16) DM_X7_foretell_15 rfl rfl ?_
  refine r_getR (q := 19) (r := 4) DM_X7_foretell_16 rfl fRX7_25 sh_0 rfl ?_
  refine v_getI (q := 22) (ji := 4) DM_X7_foretell_19 rfl fRX7_145 (co0 cK_4) rfl rfl ?_
  refine r_sipush (q := 25) (n := 300) DM_X7_foretell_22 rfl (by decide) ?_
  refine r_iadd (q := 26) DM_X7_foretell_25 rfl ?_
  refine r_iloadn (q := 27) DM_X7_foretell_26 rfl rfl ?_
  have i4 := h.1
  replace h := h.2
  have i5 := h.1
  replace h := h.2
  have i6 := h.1
  replace h := h.2
  have i7 := h.1
  replace h := h.2
  refine r_callVv [.inl ((μ3 4 4) + 300), .inl x1] (q := 30) DM_X7_foretell_27 rfl kM_X2_seatTill lRX7_148 (co0 cK_14) rfl rfl (by decide) (Nat.le_of_ble_eq_true rfl) rfl (k_X2_seatTill cK_14 i4 i5 i6 i7 (fun μ8 e8 => ⟨rfl, ?_⟩))
  replace h := h μ8 e8
  refine r_aloadn (q := 31) DM_X7_foretell_30 rfl rfl ?_
  refine r_getR (q := 34) (r := 14) DM_X7_foretell_31 rfl fRX7_29 sh_0 rfl ?_
  exact r_ret (v := some (.inr 14)) ⟨DM_X7_foretell_34, _, rfl⟩ h
set_option maxRecDepth 20000 in
theorem s_X7_when {E : Ex} {μ : Mem} {Q : Option Vl → Mem → Prop} {x1 x2 : Int}  (ix1 : inR x1) (ix2 : inR x2) (h : inR (μ 4 1) ∧ (¬ (0 ≤ x1 ∧ x1 < μ 4 1) → Q (some (.inl (-1000001))) μ) ∧ ((0 ≤ x1 ∧ x1 < μ 4 1) → ((0 ≤ x2 ∧ x2 < 3) → Cl E 5 M_X7_foretell [.inr 0, .inl 0] μ (fun vv μ2 => vv = some (.inr 14) ∧ (x2 ≠ 2 → Cl E 0 M_X2_isSeated [.inr 14, .inl x1] μ2 (fun vv μ4 => ∃ v5, vv = some (.inl (bi v5)) ∧ (v5 = true → (x2 ≠ 0 → (0 ≤ x1 ∧ x1 < 6) ∧ Q (some (.inl (μ4 (14 + 8) x1 + μ4 (14 + 6) x1))) μ4) ∧ (x2 = 0 → (0 ≤ x1 ∧ x1 < 6) ∧ Q (some (.inl (μ4 (14 + 8) x1))) μ4)) ∧ (v5 = false → Q (some (.inl (-1000000))) μ4))) ∧ (x2 = 2 → Cl E 0 M_X2_isSeated [.inr 14, .inl x1] μ2 (fun vv μ8 => ∃ v9, vv = some (.inl (bi v9)) ∧ (v9 = false → (0 ≤ x1 ∧ x1 < 6) ∧ Q (some (.inl (μ8 (14 + 7) x1))) μ8) ∧ (v9 = true → Q (some (.inl (-1000000))) μ8))))) ∧ (¬ (0 ≤ x2 ∧ x2 < 3) → Q (some (.inl (-1000001))) μ))) : Cl E 6 M_X7_when [.inr 0, .inl x1, .inl x2] μ Q := by
  show Gg E 6 M_X7_when 0 [some (.inr 0), some (.inl x1), some (.inl x2), none] [] μ Q
  refine r_aloadn (q := 1) DM_X7_when_0 rfl rfl ?_
  refine r_iloadn (q := 2) DM_X7_when_1 rfl rfl ?_
  have i1 := h.1
  replace h := h.2
  refine r_callVi [.inl x1] (q := 5) DM_X7_when_2 rfl kM_X7_isPerson lRX7_187 sh_0 rfl rfl (by decide) (Nat.le_of_ble_eq_true rfl) rfl (k_X7_isPerson ix1 i1 ⟨_, rfl, ?_⟩)
  refine r_bieq (q := 8) (t := 16) DM_X7_when_5 rfl (by decide) ⟨fun cc => ?_, fun cc => ?_⟩
  · replace h := h.1 cc
    refine r_ldc (q := 18) (n := (-1000001)) DM_X7_when_16 rfl nRX7_69 ?_
    exact r_ret (v := some (.inl (-1000001))) ⟨DM_X7_when_18, Or.inl rfl⟩ h
  · replace h := h.2 cc
    refine r_iloadn (q := 9) DM_X7_when_8 rfl rfl ?_
    refine r_iconst (q := 10) (n := 3) DM_X7_when_9 rfl ?_
    refine r_callSi [.inl x2, .inl 3] (q := 13) DM_X7_when_10 rfl kM_X7_isIn lRX7_65 rfl (by decide) (Nat.le_of_ble_eq_true rfl) rfl (k_X7_isIn ix2 (by decide) ⟨_, rfl, ?_⟩)
    refine r_bine (q := 16) (t := 19) DM_X7_when_13 rfl (by decide) ⟨fun cc => ?_, fun cc => ?_⟩
    · replace h := h.1 cc
      refine r_aloadn (q := 20) DM_X7_when_19 rfl rfl ?_
      refine r_iconst (q := 21) (n := 0) DM_X7_when_20 rfl ?_
      refine r_callVr [.inl 0] (q := 24) DM_X7_when_21 rfl kM_X7_foretell lRX7_216 sh_0 rfl rfl (by decide) (Nat.le_of_ble_eq_true rfl) rfl (Cl.imp h (fun vv μ2 h => ?_))
      obtain ⟨hv, h⟩ := h
      refine ⟨14, hv, ?_⟩
      refine v_astoren (q := 25) (ls' := [some (.inr 0), some (.inl x1), some (.inl x2), some (.inr 14)]) DM_X7_when_24 rfl (by decide) rfl ?_
      refine r_iloadn (q := 26) DM_X7_when_25 rfl rfl ?_
      refine r_iconst (q := 27) (n := 2) DM_X7_when_26 rfl ?_
      refine r_icne (q := 30) (t := 50) DM_X7_when_27 rfl (by decide) ⟨⟨ix2, (by decide)⟩, fun cc => ?_, fun cc => ?_⟩
      · replace h := h.1 cc
        refine r_aloadn (q := 51) DM_X7_when_50 rfl rfl ?_
        refine r_iloadn (q := 52) DM_X7_when_51 rfl rfl ?_
        refine r_callVi [.inl x1] (q := 55) DM_X7_when_52 rfl kM_X2_isSeated lRX7_220 (co0 cK_14) rfl rfl (by decide) (Nat.le_of_ble_eq_true rfl) rfl (Cl.imp h (fun vv μ4 h => ?_))
        obtain ⟨v5, hv, h⟩ := h
        refine ⟨_, hv, ?_⟩
        refine r_bbne (q := 58) (t := 61) DM_X7_when_55 rfl (by decide) ⟨fun cc => ?_, fun cc => ?_⟩
        · replace h := h.1 cc
          refine r_iloadn (q := 62) DM_X7_when_61 rfl rfl ?_
          refine r_ifne (q := 65) (t := 74) DM_X7_when_62 rfl (by decide) ⟨ix2, fun cc => ?_, fun cc => ?_⟩
          · replace h := h.1 cc
            refine r_aloadn (q := 75) DM_X7_when_74 rfl rfl ?_
            refine r_iloadn (q := 76) DM_X7_when_75 rfl rfl ?_
            have i6 := h.1
            replace h := h.2
            refine r_callVi [.inl x1] (q := 79) DM_X7_when_76 rfl kM_X2_freeDay lRX7_203 (co0 cK_14) rfl rfl (by decide) (Nat.le_of_ble_eq_true rfl) rfl (k_X2_freeDay cK_14 i6 ⟨_, rfl, ?_⟩)
            exact r_ret (v := some (.inl (μ4 (14 + 8) x1 + μ4 (14 + 6) x1))) ⟨DM_X7_when_79, Or.inl rfl⟩ h
          · replace h := h.2 cc
            refine r_aloadn (q := 66) DM_X7_when_65 rfl rfl ?_
            refine r_getR (q := 69) (r := 14 + 8) DM_X7_when_66 rfl fRX7_223 (co0 cK_14) rfl ?_
            refine r_iloadn (q := 70) DM_X7_when_69 rfl rfl ?_
            refine r_iald (q := 71) DM_X7_when_70 rfl (co8 cK_14) (by decide) ⟨h.1, ?_⟩
            have i7 := h.1
            replace h := h.2
            refine r_goto (q := 79) DM_X7_when_71 (by decide) ?_
            exact r_ret (v := some (.inl (μ4 (14 + 8) x1))) ⟨DM_X7_when_79, Or.inl rfl⟩ h
        · replace h := h.2 cc
          refine r_ldc (q := 60) (n := (-1000000)) DM_X7_when_58 rfl nRX7_209 ?_
          exact r_ret (v := some (.inl (-1000000))) ⟨DM_X7_when_60, Or.inl rfl⟩ h
      · replace h := h.2 cc
        refine r_aloadn (q := 31) DM_X7_when_30 rfl rfl ?_
        refine r_iloadn (q := 32) DM_X7_when_31 rfl rfl ?_
        refine r_callVi [.inl x1] (q := 35) DM_X7_when_32 rfl kM_X2_isSeated lRX7_220 (co0 cK_14) rfl rfl (by decide) (Nat.le_of_ble_eq_true rfl) rfl (Cl.imp h (fun vv μ8 h => ?_))
        obtain ⟨v9, hv, h⟩ := h
        refine ⟨_, hv, ?_⟩
        refine r_bbeq (q := 38) (t := 43) DM_X7_when_35 rfl (by decide) ⟨fun cc => ?_, fun cc => ?_⟩
        · replace h := h.1 cc
          refine r_aloadn (q := 44) DM_X7_when_43 rfl rfl ?_
          refine r_getR (q := 47) (r := 14 + 7) DM_X7_when_44 rfl fRX7_194 (co0 cK_14) rfl ?_
          refine r_iloadn (q := 48) DM_X7_when_47 rfl rfl ?_
          refine r_iald (q := 49) DM_X7_when_48 rfl (co7 cK_14) (by decide) ⟨h.1, ?_⟩
          have i10 := h.1
          replace h := h.2
          exact r_ret (v := some (.inl (μ8 (14 + 7) x1))) ⟨DM_X7_when_49, Or.inl rfl⟩ h
        · replace h := h.2 cc
          refine r_ldc (q := 40) (n := (-1000000)) DM_X7_when_38 rfl nRX7_209 ?_
          refine r_goto (q := 49) DM_X7_when_40 (by decide) ?_
          exact r_ret (v := some (.inl (-1000000))) ⟨DM_X7_when_49, Or.inl rfl⟩ h
    · replace h := h.2 cc
      refine r_ldc (q := 18) (n := (-1000001)) DM_X7_when_16 rfl nRX7_69 ?_
      exact r_ret (v := some (.inl (-1000001))) ⟨DM_X7_when_18, Or.inl rfl⟩ h
set_option maxRecDepth 20000 in
theorem s_X7_waited {E : Ex} {μ : Mem} {Q : Option Vl → Mem → Prop}  (h : inR (μ 4 0) ∧ ((μ 4 0) = 0 → Q (some (.inl (-1000002))) μ) ∧ (¬ (μ 4 0) = 0 → Cl E 5 M_X7_foretell [.inr 0, .inl 0] μ (fun vv μ2 => vv = some (.inr 14) ∧ (RgC μ2 14) ∧ (0 ≤ μ2 14 1 ∧ μ2 14 1 ≤ 6) ∧ Q (some (.inl (cSum (cv μ2 14)))) μ2))) : Cl E 6 M_X7_waited [.inr 0] μ Q := by
  show Gg E 6 M_X7_waited 0 [some (.inr 0)] [] μ Q
  refine r_aloadn (q := 1) DM_X7_waited_0 rfl rfl ?_
  refine r_getR (q := 4) (r := 4) DM_X7_waited_1 rfl fRX7_25 sh_0 rfl ?_
  refine v_getI (q := 7) (ji := 0) DM_X7_waited_4 rfl fRX7_140 (co0 cK_4) rfl rfl ?_
  have i1 := h.1
  replace h := h.2
  refine r_ifeq (q := 10) (t := 21) DM_X7_waited_7 rfl (by decide) ⟨i1, fun cc => ?_, fun cc => ?_⟩
  · replace h := h.1 cc
    refine r_ldc (q := 23) (n := (-1000002)) DM_X7_waited_21 rfl nRX7_144 ?_
    exact r_ret (v := some (.inl (-1000002))) ⟨DM_X7_waited_23, Or.inl rfl⟩ h
  · replace h := h.2 cc
    refine r_aloadn (q := 11) DM_X7_waited_10 rfl rfl ?_
    refine r_iconst (q := 12) (n := 0) DM_X7_waited_11 rfl ?_
    refine r_callVr [.inl 0] (q := 15) DM_X7_waited_12 rfl kM_X7_foretell lRX7_216 sh_0 rfl rfl (by decide) (Nat.le_of_ble_eq_true rfl) rfl (Cl.imp h (fun vv μ2 h => ?_))
    obtain ⟨hv, h⟩ := h
    refine ⟨14, hv, ?_⟩
    have i4 := h.1
    replace h := h.2
    have i5 := h.1
    replace h := h.2
    refine r_callVi [] (q := 18) DM_X7_waited_15 rfl kM_X2_waitedByAll lRX7_226 (co0 cK_14) rfl rfl (by decide) (Nat.le_of_ble_eq_true rfl) rfl (k_X2_waitedByAll cK_14 i4 i5 ⟨_, rfl, ?_⟩)
    refine r_goto (q := 23) DM_X7_waited_18 (by decide) ?_
    exact r_ret (v := some (.inl (cSum (cv μ2 14)))) ⟨DM_X7_waited_23, Or.inl rfl⟩ h
set_option maxRecDepth 20000 in
theorem s_X7_best {E : Ex} {μ : Mem} {Q : Option Vl → Mem → Prop} {x1 : Int}  (ix1 : inR x1) (h : inR (μ 4 0) ∧ ((μ 4 0) ≠ 0 → ((0 ≤ x1 ∧ x1 < 2) → Cl E 5 M_X7_foretell [.inr 0, .inl 0] μ (fun vv μ2 => vv = some (.inr 14) ∧ (RgC μ2 14) ∧ (0 ≤ μ2 14 1 ∧ μ2 14 1 ≤ 6) ∧ Gg E 6 M_X7_best 38 [some (.inr 0), some (.inl x1), some (.inl 0), some (.inl (cSum (cv μ2 14))), some (.inl 1), none] [] μ2 Q)) ∧ (¬ (0 ≤ x1 ∧ x1 < 2) → Q (some (.inl (-1000001))) μ)) ∧ ((μ 4 0) = 0 → Q (some (.inl (-1000002))) μ)) : Cl E 6 M_X7_best [.inr 0, .inl x1] μ Q := by
  show Gg E 6 M_X7_best 0 [some (.inr 0), some (.inl x1), none, none, none, none] [] μ Q
  refine r_aloadn (q := 1) DM_X7_best_0 rfl rfl ?_
  refine r_getR (q := 4) (r := 4) DM_X7_best_1 rfl fRX7_25 sh_0 rfl ?_
  refine v_getI (q := 7) (ji := 0) DM_X7_best_4 rfl fRX7_140 (co0 cK_4) rfl rfl ?_
  have i1 := h.1
  replace h := h.2
  refine r_ifne (q := 10) (t := 13) DM_X7_best_7 rfl (by decide) ⟨i1, fun cc => ?_, fun cc => ?_⟩
  · replace h := h.1 cc
    refine r_iloadn (q := 14) DM_X7_best_13 rfl rfl ?_
    refine r_iconst (q := 15) (n := 2) DM_X7_best_14 rfl ?_
    refine r_callSi [.inl x1, .inl 2] (q := 18) DM_X7_best_15 rfl kM_X7_isIn lRX7_65 rfl (by decide) (Nat.le_of_ble_eq_true rfl) rfl (k_X7_isIn ix1 (by decide) ⟨_, rfl, ?_⟩)
    refine r_bine (q := 21) (t := 24) DM_X7_best_18 rfl (by decide) ⟨fun cc => ?_, fun cc => ?_⟩
    · replace h := h.1 cc
      refine r_iconst (q := 25) (n := 0) DM_X7_best_24 rfl ?_
      refine v_istoren (q := 26) (ls' := [some (.inr 0), some (.inl x1), some (.inl 0), none, none, none]) DM_X7_best_25 rfl (by decide) rfl ?_
      refine r_aloadn (q := 27) DM_X7_best_26 rfl rfl ?_
      refine r_iconst (q := 28) (n := 0) DM_X7_best_27 rfl ?_
      refine r_callVr [.inl 0] (q := 31) DM_X7_best_28 rfl kM_X7_foretell lRX7_216 sh_0 rfl rfl (by decide) (Nat.le_of_ble_eq_true rfl) rfl (Cl.imp h (fun vv μ2 h => ?_))
      obtain ⟨hv, h⟩ := h
      refine ⟨14, hv, ?_⟩
      have i4 := h.1
      replace h := h.2
      have i5 := h.1
      replace h := h.2
      refine r_callVi [] (q := 34) DM_X7_best_31 rfl kM_X2_waitedByAll lRX7_226 (co0 cK_14) rfl rfl (by decide) (Nat.le_of_ble_eq_true rfl) rfl (k_X2_waitedByAll cK_14 i4 i5 ⟨_, rfl, ?_⟩)
      refine v_istoren (q := 35) (ls' := [some (.inr 0), some (.inl x1), some (.inl 0), some (.inl (cSum (cv μ2 14))), none, none]) DM_X7_best_34 rfl (by decide) rfl ?_
      refine r_iconst (q := 36) (n := 1) DM_X7_best_35 rfl ?_
      refine v_istore (q := 38) (ls' := [some (.inr 0), some (.inl x1), some (.inl 0), some (.inl (cSum (cv μ2 14))), some (.inl 1), none]) DM_X7_best_36 rfl (by decide) rfl ?_
      exact h
    · replace h := h.2 cc
      refine r_ldc (q := 23) (n := (-1000001)) DM_X7_best_21 rfl nRX7_69 ?_
      exact r_ret (v := some (.inl (-1000001))) ⟨DM_X7_best_23, Or.inl rfl⟩ h
  · replace h := h.2 cc
    refine r_ldc (q := 12) (n := (-1000002)) DM_X7_best_10 rfl nRX7_144 ?_
    exact r_ret (v := some (.inl (-1000002))) ⟨DM_X7_best_12, Or.inl rfl⟩ h
set_option maxRecDepth 20000 in
theorem s_X7_best_38 {E : Ex} {μ : Mem} {Q : Option Vl → Mem → Prop} {x1 x2 x3 x4 : Int}  (h : inR x4 ∧ (x4 ≥ 8 → inR x1 ∧ (x1 ≠ 0 → Q (some (.inl x3)) μ) ∧ (x1 = 0 → Q (some (.inl x2)) μ)) ∧ (¬ x4 ≥ 8 → Cl E 5 M_X7_foretell [.inr 0, .inl x4] μ (fun vv μ3 => vv = some (.inr 14) ∧ (RgC μ3 14) ∧ (0 ≤ μ3 14 1 ∧ μ3 14 1 ≤ 6) ∧ inR (cSum (cv μ3 14)) ∧ inR x3 ∧ ((cSum (cv μ3 14)) ≥ x3 → Gg E 6 M_X7_best 38 [some (.inr 0), some (.inl x1), some (.inl x2), some (.inl x3), some (.inl (x4 + 1)), none] [] μ3 Q) ∧ (¬ (cSum (cv μ3 14)) ≥ x3 → Gg E 6 M_X7_best 38 [some (.inr 0), some (.inl x1), some (.inl x4), some (.inl (cSum (cv μ3 14))), some (.inl (x4 + 1)), none] [] μ3 Q)))) : Gg E 6 M_X7_best 38 [some (.inr 0), some (.inl x1), some (.inl x2), some (.inl x3), some (.inl x4), none] [] μ Q := by
  refine r_iload (q := 40) DM_X7_best_38 rfl rfl ?_
  refine r_bipush (q := 42) (n := 8) DM_X7_best_40 rfl (by decide) ?_
  have i1 := h.1
  replace h := h.2
  refine r_icge (q := 45) (t := 74) DM_X7_best_42 rfl (by decide) ⟨⟨i1, (by decide)⟩, fun cc => ?_, fun cc => ?_⟩
  · replace h := h.1 cc
    refine r_iloadn (q := 75) DM_X7_best_74 rfl rfl ?_
    have i2 := h.1
    replace h := h.2
    refine r_ifne (q := 78) (t := 82) DM_X7_best_75 rfl (by decide) ⟨i2, fun cc => ?_, fun cc => ?_⟩
    · replace h := h.1 cc
      refine r_iloadn (q := 83) DM_X7_best_82 rfl rfl ?_
      exact r_ret (v := some (.inl x3)) ⟨DM_X7_best_83, Or.inl rfl⟩ h
    · replace h := h.2 cc
      refine r_iloadn (q := 79) DM_X7_best_78 rfl rfl ?_
      refine r_goto (q := 83) DM_X7_best_79 (by decide) ?_
      exact r_ret (v := some (.inl x2)) ⟨DM_X7_best_83, Or.inl rfl⟩ h
  · replace h := h.2 cc
    refine r_aloadn (q := 46) DM_X7_best_45 rfl rfl ?_
    refine r_iload (q := 48) DM_X7_best_46 rfl rfl ?_
    refine r_callVr [.inl x4] (q := 51) DM_X7_best_48 rfl kM_X7_foretell lRX7_216 sh_0 rfl rfl (by decide) (Nat.le_of_ble_eq_true rfl) rfl (Cl.imp h (fun vv μ3 h => ?_))
    obtain ⟨hv, h⟩ := h
    refine ⟨14, hv, ?_⟩
    have i5 := h.1
    replace h := h.2
    have i6 := h.1
    replace h := h.2
    refine r_callVi [] (q := 54) DM_X7_best_51 rfl kM_X2_waitedByAll lRX7_226 (co0 cK_14) rfl rfl (by decide) (Nat.le_of_ble_eq_true rfl) rfl (k_X2_waitedByAll cK_14 i5 i6 ⟨_, rfl, ?_⟩)
    refine v_istore (q := 56) (ls' := [some (.inr 0), some (.inl x1), some (.inl x2), some (.inl x3), some (.inl x4), some (.inl (cSum (cv μ3 14)))]) DM_X7_best_54 rfl (by decide) rfl ?_
    refine r_iload (q := 58) DM_X7_best_56 rfl rfl ?_
    refine r_iloadn (q := 59) DM_X7_best_58 rfl rfl ?_
    have i7 := h.1
    replace h := h.2
    have i8 := h.1
    replace h := h.2
    refine r_icge (q := 62) (t := 68) DM_X7_best_59 rfl (by decide) ⟨⟨i7, i8⟩, fun cc => ?_, fun cc => ?_⟩
    · replace h := h.1 cc
      refine v_iinc (q := 71) (ls' := [some (.inr 0), some (.inl x1), some (.inl x2), some (.inl x3), some (.inl (x4 + 1)), some (.inl (cSum (cv μ3 14)))]) DM_X7_best_68 rfl rfl (by decide) rfl ?_
      refine r_goto (q := 38) DM_X7_best_71 (by decide) ?_
      exact Gg.weak [true, true, true, true, true, false] h
    · replace h := h.2 cc
      refine r_iload (q := 64) DM_X7_best_62 rfl rfl ?_
      refine v_istoren (q := 65) (ls' := [some (.inr 0), some (.inl x1), some (.inl x2), some (.inl (cSum (cv μ3 14))), some (.inl x4), some (.inl (cSum (cv μ3 14)))]) DM_X7_best_64 rfl (by decide) rfl ?_
      refine r_iload (q := 67) DM_X7_best_65 rfl rfl ?_
      refine v_istoren (q := 68) (ls' := [some (.inr 0), some (.inl x1), some (.inl x4), some (.inl (cSum (cv μ3 14))), some (.inl x4), some (.inl (cSum (cv μ3 14)))]) DM_X7_best_67 rfl (by decide) rfl ?_
      refine v_iinc (q := 71) (ls' := [some (.inr 0), some (.inl x1), some (.inl x4), some (.inl (cSum (cv μ3 14))), some (.inl (x4 + 1)), some (.inl (cSum (cv μ3 14)))]) DM_X7_best_68 rfl rfl (by decide) rfl ?_
      refine r_goto (q := 38) DM_X7_best_71 (by decide) ?_
      exact Gg.weak [true, true, true, true, true, false] h
set_option maxRecDepth 20000 in
theorem s_X8_goes {E : Ex} {μ : Mem} {Q : Option Vl → Mem → Prop} {x1 : Int}  (h : Cl E 0 M_X8_copies [.inr 89, .inl 0, .inr 91, .inl 0] μ (fun vv μ1 => vv = none ∧ Gg E 5 M_X8_goes 15 [some (.inr 83), some (.inl x1), some (.inl 0)] [] μ1 Q)) : Cl E 5 M_X8_goes [.inr 83, .inl x1] μ Q := by
  show Gg E 5 M_X8_goes 0 [some (.inr 83), some (.inl x1), none] [] μ Q
  refine r_aloadn (q := 1) DM_X8_goes_0 rfl rfl ?_
  refine r_getR (q := 4) (r := 89) DM_X8_goes_1 rfl fRX8_25 sh_83 rfl ?_
  refine r_iconst (q := 5) (n := 0) DM_X8_goes_4 rfl ?_
  refine r_aloadn (q := 6) DM_X8_goes_5 rfl rfl ?_
  refine r_getR (q := 9) (r := 91) DM_X8_goes_6 rfl fRX8_31 sh_83 rfl ?_
  refine r_iconst (q := 10) (n := 0) DM_X8_goes_9 rfl ?_
  refine r_callSv [.inr 89, .inl 0, .inr 91, .inl 0] (q := 13) DM_X8_goes_10 rfl kM_X8_copies lRX8_151 rfl (by decide) (Nat.le_of_ble_eq_true rfl) rfl (Cl.imp h (fun vv μ1 h => ?_))
  obtain ⟨hv, h⟩ := h
  refine ⟨hv, ?_⟩
  refine r_iconst (q := 14) (n := 0) DM_X8_goes_13 rfl ?_
  refine v_istoren (q := 15) (ls' := [some (.inr 83), some (.inl x1), some (.inl 0)]) DM_X8_goes_14 rfl (by decide) rfl ?_
  exact h
set_option maxRecDepth 20000 in
theorem s_X8_goes_15 {E : Ex} {μ : Mem} {Q : Option Vl → Mem → Prop} {x1 x2 : Int}  (h : inR x2 ∧ (x2 ≥ 300 → Q none μ) ∧ (¬ x2 ≥ 300 → Cl E 4 M_X8_passes [.inr 83, .inr 91, .inl x1] μ (fun vv μ2 => vv = none ∧ Gg E 5 M_X8_goes 15 [some (.inr 83), some (.inl x1), some (.inl (x2 + 1))] [] μ2 Q))) : Gg E 5 M_X8_goes 15 [some (.inr 83), some (.inl x1), some (.inl x2)] [] μ Q := by
  refine r_iloadn (q := 16) DM_X8_goes_15 rfl rfl ?_
  refine r_sipush (q := 19) (n := 300) DM_X8_goes_16 rfl (by decide) ?_
  have i1 := h.1
  replace h := h.2
  refine r_icge (q := 22) (t := 37) DM_X8_goes_19 rfl (by decide) ⟨⟨i1, (by decide)⟩, fun cc => ?_, fun cc => ?_⟩
  · replace h := h.1 cc
    exact r_ret (v := none) ⟨DM_X8_goes_37, rfl⟩ h
  · replace h := h.2 cc
    refine r_aloadn (q := 23) DM_X8_goes_22 rfl rfl ?_
    refine r_aloadn (q := 24) DM_X8_goes_23 rfl rfl ?_
    refine r_getR (q := 27) (r := 91) DM_X8_goes_24 rfl fRX8_31 sh_83 rfl ?_
    refine r_iloadn (q := 28) DM_X8_goes_27 rfl rfl ?_
    refine r_callVv [.inr 91, .inl x1] (q := 31) DM_X8_goes_28 rfl kM_X8_passes lRX8_207 sh_83 rfl rfl (by decide) (Nat.le_of_ble_eq_true rfl) rfl (Cl.imp h (fun vv μ2 h => ?_))
    obtain ⟨hv, h⟩ := h
    refine ⟨hv, ?_⟩
    refine v_iinc (q := 34) (ls' := [some (.inr 83), some (.inl x1), some (.inl (x2 + 1))]) DM_X8_goes_31 rfl rfl (by decide) rfl ?_
    refine r_goto (q := 15) DM_X8_goes_34 (by decide) ?_
    exact h
set_option maxRecDepth 20000 in
theorem s_X8_when {E : Ex} {μ : Mem} {Q : Option Vl → Mem → Prop} {x1 x2 : Int}  (ix1 : inR x1) (ix2 : inR x2) (h : inR (μ 89 2 - 1) ∧ (¬ (0 ≤ x1 ∧ x1 ≤ μ 89 2 - 1) → Q (some (.inl (-1000001))) μ) ∧ ((0 ≤ x1 ∧ x1 ≤ μ 89 2 - 1) → ((0 ≤ x2 ∧ x2 ≤ 2) → Cl E 5 M_X8_goes [.inr 83, .inl 0] μ (fun vv μ2 => vv = none ∧ (0 ≤ 13 + 13 * x1 + (10 + x2) ∧ 13 + 13 * x1 + (10 + x2) < 91) ∧ Q (some (.inl (μ2 91 (13 + 13 * x1 + (10 + x2))))) μ2)) ∧ (¬ (0 ≤ x2 ∧ x2 ≤ 2) → Q (some (.inl (-1000001))) μ))) : Cl E 6 M_X8_when [.inr 83, .inl x1, .inl x2] μ Q := by
  show Gg E 6 M_X8_when 0 [some (.inr 83), some (.inl x1), some (.inl x2)] [] μ Q
  refine r_aloadn (q := 1) DM_X8_when_0 rfl rfl ?_
  refine r_iloadn (q := 2) DM_X8_when_1 rfl rfl ?_
  have i1 := h.1
  replace h := h.2
  refine r_callVi [.inl x1] (q := 5) DM_X8_when_2 rfl kM_X8_isPerson lRX8_210 sh_83 rfl rfl (by decide) (Nat.le_of_ble_eq_true rfl) rfl (k_X8_isPerson ix1 i1 ⟨_, rfl, ?_⟩)
  refine r_bieq (q := 8) (t := 17) DM_X8_when_5 rfl (by decide) ⟨fun cc => ?_, fun cc => ?_⟩
  · replace h := h.1 cc
    refine r_ldc (q := 19) (n := (-1000001)) DM_X8_when_17 rfl nRX8_73 ?_
    exact r_ret (v := some (.inl (-1000001))) ⟨DM_X8_when_19, Or.inl rfl⟩ h
  · replace h := h.2 cc
    refine r_iloadn (q := 9) DM_X8_when_8 rfl rfl ?_
    refine r_iconst (q := 10) (n := 0) DM_X8_when_9 rfl ?_
    refine r_iconst (q := 11) (n := 2) DM_X8_when_10 rfl ?_
    refine r_callSi [.inl x2, .inl 0, .inl 2] (q := 14) DM_X8_when_11 rfl kM_X8_in lRX8_65 rfl (by decide) (Nat.le_of_ble_eq_true rfl) rfl (k_X8_in ix2 (by decide) (by decide) ⟨_, rfl, ?_⟩)
    refine r_bine (q := 17) (t := 20) DM_X8_when_14 rfl (by decide) ⟨fun cc => ?_, fun cc => ?_⟩
    · replace h := h.1 cc
      refine r_aloadn (q := 21) DM_X8_when_20 rfl rfl ?_
      refine r_iconst (q := 22) (n := 0) DM_X8_when_21 rfl ?_
      refine r_callVv [.inl 0] (q := 25) DM_X8_when_22 rfl kM_X8_goes lRX8_219 sh_83 rfl rfl (by decide) (Nat.le_of_ble_eq_true rfl) rfl (Cl.imp h (fun vv μ2 h => ?_))
      obtain ⟨hv, h⟩ := h
      refine ⟨hv, ?_⟩
      refine r_aloadn (q := 26) DM_X8_when_25 rfl rfl ?_
      refine r_getR (q := 29) (r := 91) DM_X8_when_26 rfl fRX8_31 sh_83 rfl ?_
      refine r_iloadn (q := 30) DM_X8_when_29 rfl rfl ?_
      refine r_bipush (q := 32) (n := 10) DM_X8_when_30 rfl (by decide) ?_
      refine r_iloadn (q := 33) DM_X8_when_32 rfl rfl ?_
      refine r_iadd (q := 34) DM_X8_when_33 rfl ?_
      have i4 := h.1
      replace h := h.2
      refine r_callSi [.inr 91, .inl x1, .inl (10 + x2)] (q := 37) DM_X8_when_34 rfl kM_X8_of lRX8_158 rfl (by decide) (Nat.le_of_ble_eq_true rfl) rfl (k_X8_of sh_91 i4 ⟨_, rfl, ?_⟩)
      exact r_ret (v := some (.inl (μ2 91 (13 + 13 * x1 + (10 + x2))))) ⟨DM_X8_when_37, Or.inl rfl⟩ h
    · replace h := h.2 cc
      refine r_ldc (q := 19) (n := (-1000001)) DM_X8_when_17 rfl nRX8_73 ?_
      exact r_ret (v := some (.inl (-1000001))) ⟨DM_X8_when_19, Or.inl rfl⟩ h
set_option maxRecDepth 20000 in
theorem s_X8_waitedTried {E : Ex} {μ : Mem} {Q : Option Vl → Mem → Prop}  (h : Gg E 1 M_X8_waitedTried 4 [some (.inr 83), some (.inl 0), some (.inl 0), none, none] [] μ Q) : Cl E 1 M_X8_waitedTried [.inr 83] μ Q := by
  show Gg E 1 M_X8_waitedTried 0 [some (.inr 83), none, none, none, none] [] μ Q
  refine r_iconst (q := 1) (n := 0) DM_X8_waitedTried_0 rfl ?_
  refine v_istoren (q := 2) (ls' := [some (.inr 83), some (.inl 0), none, none, none]) DM_X8_waitedTried_1 rfl (by decide) rfl ?_
  refine r_iconst (q := 3) (n := 0) DM_X8_waitedTried_2 rfl ?_
  refine v_istoren (q := 4) (ls' := [some (.inr 83), some (.inl 0), some (.inl 0), none, none]) DM_X8_waitedTried_3 rfl (by decide) rfl ?_
  exact h
set_option maxRecDepth 20000 in
theorem s_X8_waitedTried_4 {E : Ex} {μ : Mem} {Q : Option Vl → Mem → Prop} {x1 x2 : Int}  (h : inR x2 ∧ inR (μ 91 2) ∧ (x2 ≥ (μ 91 2) → Q (some (.inl x1)) μ) ∧ (¬ x2 ≥ (μ 91 2) → (0 ≤ 13 + 13 * x2 + 10 ∧ 13 + 13 * x2 + 10 < 91) ∧ (0 ≤ 13 + 13 * x2 + 12 ∧ 13 + 13 * x2 + 12 < 91) ∧ inR (μ 91 (13 + 13 * x2 + 10)) ∧ ((μ 91 (13 + 13 * x2 + 10)) = (-1000000) → inR (μ 91 (13 + 13 * x2 + 12)) ∧ ((μ 91 (13 + 13 * x2 + 12)) = (-1000000) → Gg E 1 M_X8_waitedTried 4 [some (.inr 83), some (.inl (x1 + ((μ 89 3) + 300))), some (.inl (x2 + 1)), none, none] [] μ Q) ∧ (¬ (μ 91 (13 + 13 * x2 + 12)) = (-1000000) → Gg E 1 M_X8_waitedTried 4 [some (.inr 83), some (.inl (x1 + (μ 91 (13 + 13 * x2 + 12)))), some (.inl (x2 + 1)), none, none] [] μ Q)) ∧ (¬ (μ 91 (13 + 13 * x2 + 10)) = (-1000000) → Gg E 1 M_X8_waitedTried 4 [some (.inr 83), some (.inl (x1 + (μ 91 (13 + 13 * x2 + 10)))), some (.inl (x2 + 1)), none, none] [] μ Q))) : Gg E 1 M_X8_waitedTried 4 [some (.inr 83), some (.inl x1), some (.inl x2), none, none] [] μ Q := by
  refine r_iloadn (q := 5) DM_X8_waitedTried_4 rfl rfl ?_
  refine r_aloadn (q := 6) DM_X8_waitedTried_5 rfl rfl ?_
  refine r_getR (q := 9) (r := 91) DM_X8_waitedTried_6 rfl fRX8_31 sh_83 rfl ?_
  refine r_iconst (q := 10) (n := 2) DM_X8_waitedTried_9 rfl ?_
  refine r_iald (q := 11) DM_X8_waitedTried_10 rfl sh_91 (by decide) ⟨by decide, ?_⟩
  have i1 := h.1
  replace h := h.2
  have i2 := h.1
  replace h := h.2
  refine r_icge (q := 14) (t := 78) DM_X8_waitedTried_11 rfl (by decide) ⟨⟨i1, i2⟩, fun cc => ?_, fun cc => ?_⟩
  · replace h := h.1 cc
    refine r_iloadn (q := 79) DM_X8_waitedTried_78 rfl rfl ?_
    exact r_ret (v := some (.inl x1)) ⟨DM_X8_waitedTried_79, Or.inl rfl⟩ h
  · replace h := h.2 cc
    refine r_aloadn (q := 15) DM_X8_waitedTried_14 rfl rfl ?_
    refine r_getR (q := 18) (r := 91) DM_X8_waitedTried_15 rfl fRX8_31 sh_83 rfl ?_
    refine r_iloadn (q := 19) DM_X8_waitedTried_18 rfl rfl ?_
    refine r_bipush (q := 21) (n := 10) DM_X8_waitedTried_19 rfl (by decide) ?_
    have i3 := h.1
    replace h := h.2
    refine r_callSi [.inr 91, .inl x2, .inl 10] (q := 24) DM_X8_waitedTried_21 rfl kM_X8_of lRX8_158 rfl (by decide) (Nat.le_of_ble_eq_true rfl) rfl (k_X8_of sh_91 i3 ⟨_, rfl, ?_⟩)
    refine v_istoren (q := 25) (ls' := [some (.inr 83), some (.inl x1), some (.inl x2), some (.inl (μ 91 (13 + 13 * x2 + 10))), none]) DM_X8_waitedTried_24 rfl (by decide) rfl ?_
    refine r_aloadn (q := 26) DM_X8_waitedTried_25 rfl rfl ?_
    refine r_getR (q := 29) (r := 91) DM_X8_waitedTried_26 rfl fRX8_31 sh_83 rfl ?_
    refine r_iloadn (q := 30) DM_X8_waitedTried_29 rfl rfl ?_
    refine r_bipush (q := 32) (n := 12) DM_X8_waitedTried_30 rfl (by decide) ?_
    have i4 := h.1
    replace h := h.2
    refine r_callSi [.inr 91, .inl x2, .inl 12] (q := 35) DM_X8_waitedTried_32 rfl kM_X8_of lRX8_158 rfl (by decide) (Nat.le_of_ble_eq_true rfl) rfl (k_X8_of sh_91 i4 ⟨_, rfl, ?_⟩)
    refine v_istore (q := 37) (ls' := [some (.inr 83), some (.inl x1), some (.inl x2), some (.inl (μ 91 (13 + 13 * x2 + 10))), some (.inl (μ 91 (13 + 13 * x2 + 12)))]) DM_X8_waitedTried_35 rfl (by decide) rfl ?_
    refine r_iloadn (q := 38) DM_X8_waitedTried_37 rfl rfl ?_
    refine r_iloadn (q := 39) DM_X8_waitedTried_38 rfl rfl ?_
    refine r_ldc (q := 41) (n := (-1000000)) DM_X8_waitedTried_39 rfl nRX8_59 ?_
    have i5 := h.1
    replace h := h.2
    refine r_iceq (q := 44) (t := 48) DM_X8_waitedTried_41 rfl (by decide) ⟨⟨i5, (by decide)⟩, fun cc => ?_, fun cc => ?_⟩
    · replace h := h.1 cc
      refine r_iload (q := 50) DM_X8_waitedTried_48 rfl rfl ?_
      refine r_ldc (q := 52) (n := (-1000000)) DM_X8_waitedTried_50 rfl nRX8_59 ?_
      have i6 := h.1
      replace h := h.2
      refine r_iceq (q := 55) (t := 60) DM_X8_waitedTried_52 rfl (by decide) ⟨⟨i6, (by decide)⟩, fun cc => ?_, fun cc => ?_⟩
      · replace h := h.1 cc
        refine r_aloadn (q := 61) DM_X8_waitedTried_60 rfl rfl ?_
        refine r_getR (q := 64) (r := 89) DM_X8_waitedTried_61 rfl fRX8_25 sh_83 rfl ?_
        refine r_iconst (q := 65) (n := 3) DM_X8_waitedTried_64 rfl ?_
        refine r_iald (q := 66) DM_X8_waitedTried_65 rfl sh_89 (by decide) ⟨by decide, ?_⟩
        refine r_sipush (q := 69) (n := 300) DM_X8_waitedTried_66 rfl (by decide) ?_
        refine r_iadd (q := 70) DM_X8_waitedTried_69 rfl ?_
        refine r_iadd (q := 71) DM_X8_waitedTried_70 rfl ?_
        refine v_istoren (q := 72) (ls' := [some (.inr 83), some (.inl (x1 + ((μ 89 3) + 300))), some (.inl x2), some (.inl (μ 91 (13 + 13 * x2 + 10))), some (.inl (μ 91 (13 + 13 * x2 + 12)))]) DM_X8_waitedTried_71 rfl (by decide) rfl ?_
        refine v_iinc (q := 75) (ls' := [some (.inr 83), some (.inl (x1 + ((μ 89 3) + 300))), some (.inl (x2 + 1)), some (.inl (μ 91 (13 + 13 * x2 + 10))), some (.inl (μ 91 (13 + 13 * x2 + 12)))]) DM_X8_waitedTried_72 rfl rfl (by decide) rfl ?_
        refine r_goto (q := 4) DM_X8_waitedTried_75 (by decide) ?_
        exact Gg.weak [true, true, true, false, false] h
      · replace h := h.2 cc
        refine r_iload (q := 57) DM_X8_waitedTried_55 rfl rfl ?_
        refine r_goto (q := 70) DM_X8_waitedTried_57 (by decide) ?_
        refine r_iadd (q := 71) DM_X8_waitedTried_70 rfl ?_
        refine v_istoren (q := 72) (ls' := [some (.inr 83), some (.inl (x1 + (μ 91 (13 + 13 * x2 + 12)))), some (.inl x2), some (.inl (μ 91 (13 + 13 * x2 + 10))), some (.inl (μ 91 (13 + 13 * x2 + 12)))]) DM_X8_waitedTried_71 rfl (by decide) rfl ?_
        refine v_iinc (q := 75) (ls' := [some (.inr 83), some (.inl (x1 + (μ 91 (13 + 13 * x2 + 12)))), some (.inl (x2 + 1)), some (.inl (μ 91 (13 + 13 * x2 + 10))), some (.inl (μ 91 (13 + 13 * x2 + 12)))]) DM_X8_waitedTried_72 rfl rfl (by decide) rfl ?_
        refine r_goto (q := 4) DM_X8_waitedTried_75 (by decide) ?_
        exact Gg.weak [true, true, true, false, false] h
    · replace h := h.2 cc
      refine r_iloadn (q := 45) DM_X8_waitedTried_44 rfl rfl ?_
      refine r_goto (q := 70) DM_X8_waitedTried_45 (by decide) ?_
      refine r_iadd (q := 71) DM_X8_waitedTried_70 rfl ?_
      refine v_istoren (q := 72) (ls' := [some (.inr 83), some (.inl (x1 + (μ 91 (13 + 13 * x2 + 10)))), some (.inl x2), some (.inl (μ 91 (13 + 13 * x2 + 10))), some (.inl (μ 91 (13 + 13 * x2 + 12)))]) DM_X8_waitedTried_71 rfl (by decide) rfl ?_
      refine v_iinc (q := 75) (ls' := [some (.inr 83), some (.inl (x1 + (μ 91 (13 + 13 * x2 + 10)))), some (.inl (x2 + 1)), some (.inl (μ 91 (13 + 13 * x2 + 10))), some (.inl (μ 91 (13 + 13 * x2 + 12)))]) DM_X8_waitedTried_72 rfl rfl (by decide) rfl ?_
      refine r_goto (q := 4) DM_X8_waitedTried_75 (by decide) ?_
      exact Gg.weak [true, true, true, false, false] h
set_option maxRecDepth 20000 in
theorem s_X8_waited {E : Ex} {μ : Mem} {Q : Option Vl → Mem → Prop}  (h : inR (μ 89 0) ∧ ((0 < μ 89 0) → Cl E 5 M_X8_goes [.inr 83, .inl 0] μ (fun vv μ2 => vv = none ∧ Cl E 1 M_X8_waitedTried [.inr 83] μ2 (fun vv μ4 => ∃ v5, vv = some (.inl v5) ∧ Q (some (.inl v5)) μ4))) ∧ (¬ (0 < μ 89 0) → Q (some (.inl (-1000002))) μ)) : Cl E 6 M_X8_waited [.inr 83] μ Q := by
  show Gg E 6 M_X8_waited 0 [some (.inr 83)] [] μ Q
  refine r_aloadn (q := 1) DM_X8_waited_0 rfl rfl ?_
  have i1 := h.1
  replace h := h.2
  refine r_callVi [] (q := 4) DM_X8_waited_1 rfl kM_X8_isCourt lRX8_200 sh_83 rfl rfl (by decide) (Nat.le_of_ble_eq_true rfl) rfl (k_X8_isCourt i1 ⟨_, rfl, ?_⟩)
  refine r_bine (q := 7) (t := 10) DM_X8_waited_4 rfl (by decide) ⟨fun cc => ?_, fun cc => ?_⟩
  · replace h := h.1 cc
    refine r_aloadn (q := 11) DM_X8_waited_10 rfl rfl ?_
    refine r_iconst (q := 12) (n := 0) DM_X8_waited_11 rfl ?_
    refine r_callVv [.inl 0] (q := 15) DM_X8_waited_12 rfl kM_X8_goes lRX8_219 sh_83 rfl rfl (by decide) (Nat.le_of_ble_eq_true rfl) rfl (Cl.imp h (fun vv μ2 h => ?_))
    obtain ⟨hv, h⟩ := h
    refine ⟨hv, ?_⟩
    refine r_aloadn (q := 16) DM_X8_waited_15 rfl rfl ?_
    refine r_callVi [] (q := 19) DM_X8_waited_16 rfl kM_X8_waitedTried lRX8_223 sh_83 rfl rfl (by decide) (Nat.le_of_ble_eq_true rfl) rfl (Cl.imp h (fun vv μ4 h => ?_))
    obtain ⟨v5, hv, h⟩ := h
    refine ⟨v5, hv, ?_⟩
    exact r_ret (v := some (.inl v5)) ⟨DM_X8_waited_19, Or.inl rfl⟩ h
  · replace h := h.2 cc
    refine r_ldc (q := 9) (n := (-1000002)) DM_X8_waited_7 rfl nRX8_203 ?_
    exact r_ret (v := some (.inl (-1000002))) ⟨DM_X8_waited_9, Or.inl rfl⟩ h
set_option maxRecDepth 20000 in
theorem s_X8_best {E : Ex} {μ : Mem} {Q : Option Vl → Mem → Prop} {x1 : Int}  (ix1 : inR x1) (h : inR (μ 89 0) ∧ ((0 < μ 89 0) → ((0 ≤ x1 ∧ x1 ≤ 1) → Gg E 6 M_X8_best 29 [some (.inr 83), some (.inl x1), some (.inl 0), some (.inl 0), some (.inl 0), none] [] μ Q) ∧ (¬ (0 ≤ x1 ∧ x1 ≤ 1) → Q (some (.inl (-1000001))) μ)) ∧ (¬ (0 < μ 89 0) → Q (some (.inl (-1000002))) μ)) : Cl E 6 M_X8_best [.inr 83, .inl x1] μ Q := by
  show Gg E 6 M_X8_best 0 [some (.inr 83), some (.inl x1), none, none, none, none] [] μ Q
  refine r_aloadn (q := 1) DM_X8_best_0 rfl rfl ?_
  have i1 := h.1
  replace h := h.2
  refine r_callVi [] (q := 4) DM_X8_best_1 rfl kM_X8_isCourt lRX8_200 sh_83 rfl rfl (by decide) (Nat.le_of_ble_eq_true rfl) rfl (k_X8_isCourt i1 ⟨_, rfl, ?_⟩)
  refine r_bine (q := 7) (t := 10) DM_X8_best_4 rfl (by decide) ⟨fun cc => ?_, fun cc => ?_⟩
  · replace h := h.1 cc
    refine r_iloadn (q := 11) DM_X8_best_10 rfl rfl ?_
    refine r_iconst (q := 12) (n := 0) DM_X8_best_11 rfl ?_
    refine r_iconst (q := 13) (n := 1) DM_X8_best_12 rfl ?_
    refine r_callSi [.inl x1, .inl 0, .inl 1] (q := 16) DM_X8_best_13 rfl kM_X8_in lRX8_65 rfl (by decide) (Nat.le_of_ble_eq_true rfl) rfl (k_X8_in ix1 (by decide) (by decide) ⟨_, rfl, ?_⟩)
    refine r_bine (q := 19) (t := 22) DM_X8_best_16 rfl (by decide) ⟨fun cc => ?_, fun cc => ?_⟩
    · replace h := h.1 cc
      refine r_iconst (q := 23) (n := 0) DM_X8_best_22 rfl ?_
      refine v_istoren (q := 24) (ls' := [some (.inr 83), some (.inl x1), some (.inl 0), none, none, none]) DM_X8_best_23 rfl (by decide) rfl ?_
      refine r_iconst (q := 25) (n := 0) DM_X8_best_24 rfl ?_
      refine v_istoren (q := 26) (ls' := [some (.inr 83), some (.inl x1), some (.inl 0), some (.inl 0), none, none]) DM_X8_best_25 rfl (by decide) rfl ?_
      refine r_iconst (q := 27) (n := 0) DM_X8_best_26 rfl ?_
      refine v_istore (q := 29) (ls' := [some (.inr 83), some (.inl x1), some (.inl 0), some (.inl 0), some (.inl 0), none]) DM_X8_best_27 rfl (by decide) rfl ?_
      exact h
    · replace h := h.2 cc
      refine r_ldc (q := 21) (n := (-1000001)) DM_X8_best_19 rfl nRX8_73 ?_
      exact r_ret (v := some (.inl (-1000001))) ⟨DM_X8_best_21, Or.inl rfl⟩ h
  · replace h := h.2 cc
    refine r_ldc (q := 9) (n := (-1000002)) DM_X8_best_7 rfl nRX8_203 ?_
    exact r_ret (v := some (.inl (-1000002))) ⟨DM_X8_best_9, Or.inl rfl⟩ h
set_option maxRecDepth 20000 in
theorem s_X8_best_29 {E : Ex} {μ : Mem} {Q : Option Vl → Mem → Prop} {x1 x2 x3 x4 : Int}  (h : inR x4 ∧ (x4 ≥ 8 → inR x1 ∧ (x1 ≠ 0 → Q (some (.inl x3)) μ) ∧ (x1 = 0 → Q (some (.inl x2)) μ)) ∧ (¬ x4 ≥ 8 → Cl E 5 M_X8_goes [.inr 83, .inl x4] μ (fun vv μ3 => vv = none ∧ Cl E 1 M_X8_waitedTried [.inr 83] μ3 (fun vv μ5 => ∃ v6, vv = some (.inl v6) ∧ (x4 = 0 → (x4 = 0 → Gg E 6 M_X8_best 29 [some (.inr 83), some (.inl x1), some (.inl x4), some (.inl v6), some (.inl (x4 + 1)), none] [] μ5 Q) ∧ (¬ x4 = 0 → inR v6 ∧ inR x3 ∧ (v6 ≥ x3 → Gg E 6 M_X8_best 29 [some (.inr 83), some (.inl x1), some (.inl x4), some (.inl x3), some (.inl (x4 + 1)), none] [] μ5 Q) ∧ (¬ v6 ≥ x3 → Gg E 6 M_X8_best 29 [some (.inr 83), some (.inl x1), some (.inl x4), some (.inl v6), some (.inl (x4 + 1)), none] [] μ5 Q))) ∧ (¬ x4 = 0 → inR v6 ∧ inR x3 ∧ (v6 ≥ x3 → (x4 = 0 → Gg E 6 M_X8_best 29 [some (.inr 83), some (.inl x1), some (.inl x2), some (.inl v6), some (.inl (x4 + 1)), none] [] μ5 Q) ∧ (¬ x4 = 0 → (v6 ≥ x3 → Gg E 6 M_X8_best 29 [some (.inr 83), some (.inl x1), some (.inl x2), some (.inl x3), some (.inl (x4 + 1)), none] [] μ5 Q) ∧ (¬ v6 ≥ x3 → Gg E 6 M_X8_best 29 [some (.inr 83), some (.inl x1), some (.inl x2), some (.inl v6), some (.inl (x4 + 1)), none] [] μ5 Q))) ∧ (¬ v6 ≥ x3 → (x4 = 0 → Gg E 6 M_X8_best 29 [some (.inr 83), some (.inl x1), some (.inl x4), some (.inl v6), some (.inl (x4 + 1)), none] [] μ5 Q) ∧ (¬ x4 = 0 → (v6 ≥ x3 → Gg E 6 M_X8_best 29 [some (.inr 83), some (.inl x1), some (.inl x4), some (.inl x3), some (.inl (x4 + 1)), none] [] μ5 Q) ∧ (¬ v6 ≥ x3 → Gg E 6 M_X8_best 29 [some (.inr 83), some (.inl x1), some (.inl x4), some (.inl v6), some (.inl (x4 + 1)), none] [] μ5 Q)))))))) : Gg E 6 M_X8_best 29 [some (.inr 83), some (.inl x1), some (.inl x2), some (.inl x3), some (.inl x4), none] [] μ Q := by
  refine r_iload (q := 31) DM_X8_best_29 rfl rfl ?_
  refine r_bipush (q := 33) (n := 8) DM_X8_best_31 rfl (by decide) ?_
  have i1 := h.1
  replace h := h.2
  refine r_icge (q := 36) (t := 90) DM_X8_best_33 rfl (by decide) ⟨⟨i1, (by decide)⟩, fun cc => ?_, fun cc => ?_⟩
  · replace h := h.1 cc
    refine r_iloadn (q := 91) DM_X8_best_90 rfl rfl ?_
    have i2 := h.1
    replace h := h.2
    refine r_ifne (q := 94) (t := 98) DM_X8_best_91 rfl (by decide) ⟨i2, fun cc => ?_, fun cc => ?_⟩
    · replace h := h.1 cc
      refine r_iloadn (q := 99) DM_X8_best_98 rfl rfl ?_
      exact r_ret (v := some (.inl x3)) ⟨DM_X8_best_99, Or.inl rfl⟩ h
    · replace h := h.2 cc
      refine r_iloadn (q := 95) DM_X8_best_94 rfl rfl ?_
      refine r_goto (q := 99) DM_X8_best_95 (by decide) ?_
      exact r_ret (v := some (.inl x2)) ⟨DM_X8_best_99, Or.inl rfl⟩ h
  · replace h := h.2 cc
    refine r_aloadn (q := 37) DM_X8_best_36 rfl rfl ?_
    refine r_iload (q := 39) DM_X8_best_37 rfl rfl ?_
    refine r_callVv [.inl x4] (q := 42) DM_X8_best_39 rfl kM_X8_goes lRX8_219 sh_83 rfl rfl (by decide) (Nat.le_of_ble_eq_true rfl) rfl (Cl.imp h (fun vv μ3 h => ?_))
    obtain ⟨hv, h⟩ := h
    refine ⟨hv, ?_⟩
    refine r_aloadn (q := 43) DM_X8_best_42 rfl rfl ?_
    refine r_callVi [] (q := 46) DM_X8_best_43 rfl kM_X8_waitedTried lRX8_223 sh_83 rfl rfl (by decide) (Nat.le_of_ble_eq_true rfl) rfl (Cl.imp h (fun vv μ5 h => ?_))
    obtain ⟨v6, hv, h⟩ := h
    refine ⟨v6, hv, ?_⟩
    refine v_istore (q := 48) (ls' := [some (.inr 83), some (.inl x1), some (.inl x2), some (.inl x3), some (.inl x4), some (.inl v6)]) DM_X8_best_46 rfl (by decide) rfl ?_
    refine r_iload (q := 50) DM_X8_best_48 rfl rfl ?_
    refine r_ifeq (q := 53) (t := 59) DM_X8_best_50 rfl (by decide) ⟨i1, fun cc => ?_, fun cc => ?_⟩
    · replace h := h.1 cc
      refine r_iload (q := 61) DM_X8_best_59 rfl rfl ?_
      refine r_goto (q := 65) DM_X8_best_61 (by decide) ?_
      refine v_istoren (q := 66) (ls' := [some (.inr 83), some (.inl x1), some (.inl x4), some (.inl x3), some (.inl x4), some (.inl v6)]) DM_X8_best_65 rfl (by decide) rfl ?_
      refine r_iload (q := 68) DM_X8_best_66 rfl rfl ?_
      refine r_ifeq (q := 71) (t := 77) DM_X8_best_68 rfl (by decide) ⟨i1, fun cc => ?_, fun cc => ?_⟩
      · replace h := h.1 cc
        refine r_iload (q := 79) DM_X8_best_77 rfl rfl ?_
        refine r_goto (q := 83) DM_X8_best_79 (by decide) ?_
        refine v_istoren (q := 84) (ls' := [some (.inr 83), some (.inl x1), some (.inl x4), some (.inl v6), some (.inl x4), some (.inl v6)]) DM_X8_best_83 rfl (by decide) rfl ?_
        refine v_iinc (q := 87) (ls' := [some (.inr 83), some (.inl x1), some (.inl x4), some (.inl v6), some (.inl (x4 + 1)), some (.inl v6)]) DM_X8_best_84 rfl rfl (by decide) rfl ?_
        refine r_goto (q := 29) DM_X8_best_87 (by decide) ?_
        exact Gg.weak [true, true, true, true, true, false] h
      · replace h := h.2 cc
        refine r_iload (q := 73) DM_X8_best_71 rfl rfl ?_
        refine r_iloadn (q := 74) DM_X8_best_73 rfl rfl ?_
        have i7 := h.1
        replace h := h.2
        have i8 := h.1
        replace h := h.2
        refine r_icge (q := 77) (t := 82) DM_X8_best_74 rfl (by decide) ⟨⟨i7, i8⟩, fun cc => ?_, fun cc => ?_⟩
        · replace h := h.1 cc
          refine r_iloadn (q := 83) DM_X8_best_82 rfl rfl ?_
          refine v_istoren (q := 84) (ls' := [some (.inr 83), some (.inl x1), some (.inl x4), some (.inl x3), some (.inl x4), some (.inl v6)]) DM_X8_best_83 rfl (by decide) rfl ?_
          refine v_iinc (q := 87) (ls' := [some (.inr 83), some (.inl x1), some (.inl x4), some (.inl x3), some (.inl (x4 + 1)), some (.inl v6)]) DM_X8_best_84 rfl rfl (by decide) rfl ?_
          refine r_goto (q := 29) DM_X8_best_87 (by decide) ?_
          exact Gg.weak [true, true, true, true, true, false] h
        · replace h := h.2 cc
          refine r_iload (q := 79) DM_X8_best_77 rfl rfl ?_
          refine r_goto (q := 83) DM_X8_best_79 (by decide) ?_
          refine v_istoren (q := 84) (ls' := [some (.inr 83), some (.inl x1), some (.inl x4), some (.inl v6), some (.inl x4), some (.inl v6)]) DM_X8_best_83 rfl (by decide) rfl ?_
          refine v_iinc (q := 87) (ls' := [some (.inr 83), some (.inl x1), some (.inl x4), some (.inl v6), some (.inl (x4 + 1)), some (.inl v6)]) DM_X8_best_84 rfl rfl (by decide) rfl ?_
          refine r_goto (q := 29) DM_X8_best_87 (by decide) ?_
          exact Gg.weak [true, true, true, true, true, false] h
    · replace h := h.2 cc
      refine r_iload (q := 55) DM_X8_best_53 rfl rfl ?_
      refine r_iloadn (q := 56) DM_X8_best_55 rfl rfl ?_
      have i9 := h.1
      replace h := h.2
      have i10 := h.1
      replace h := h.2
      refine r_icge (q := 59) (t := 64) DM_X8_best_56 rfl (by decide) ⟨⟨i9, i10⟩, fun cc => ?_, fun cc => ?_⟩
      · replace h := h.1 cc
        refine r_iloadn (q := 65) DM_X8_best_64 rfl rfl ?_
        refine v_istoren (q := 66) (ls' := [some (.inr 83), some (.inl x1), some (.inl x2), some (.inl x3), some (.inl x4), some (.inl v6)]) DM_X8_best_65 rfl (by decide) rfl ?_
        refine r_iload (q := 68) DM_X8_best_66 rfl rfl ?_
        refine r_ifeq (q := 71) (t := 77) DM_X8_best_68 rfl (by decide) ⟨i1, fun cc => ?_, fun cc => ?_⟩
        · replace h := h.1 cc
          refine r_iload (q := 79) DM_X8_best_77 rfl rfl ?_
          refine r_goto (q := 83) DM_X8_best_79 (by decide) ?_
          refine v_istoren (q := 84) (ls' := [some (.inr 83), some (.inl x1), some (.inl x2), some (.inl v6), some (.inl x4), some (.inl v6)]) DM_X8_best_83 rfl (by decide) rfl ?_
          refine v_iinc (q := 87) (ls' := [some (.inr 83), some (.inl x1), some (.inl x2), some (.inl v6), some (.inl (x4 + 1)), some (.inl v6)]) DM_X8_best_84 rfl rfl (by decide) rfl ?_
          refine r_goto (q := 29) DM_X8_best_87 (by decide) ?_
          exact Gg.weak [true, true, true, true, true, false] h
        · replace h := h.2 cc
          refine r_iload (q := 73) DM_X8_best_71 rfl rfl ?_
          refine r_iloadn (q := 74) DM_X8_best_73 rfl rfl ?_
          refine r_icge (q := 77) (t := 82) DM_X8_best_74 rfl (by decide) ⟨⟨i9, i10⟩, fun cc => ?_, fun cc => ?_⟩
          · replace h := h.1 cc
            refine r_iloadn (q := 83) DM_X8_best_82 rfl rfl ?_
            refine v_istoren (q := 84) (ls' := [some (.inr 83), some (.inl x1), some (.inl x2), some (.inl x3), some (.inl x4), some (.inl v6)]) DM_X8_best_83 rfl (by decide) rfl ?_
            refine v_iinc (q := 87) (ls' := [some (.inr 83), some (.inl x1), some (.inl x2), some (.inl x3), some (.inl (x4 + 1)), some (.inl v6)]) DM_X8_best_84 rfl rfl (by decide) rfl ?_
            refine r_goto (q := 29) DM_X8_best_87 (by decide) ?_
            exact Gg.weak [true, true, true, true, true, false] h
          · replace h := h.2 cc
            refine r_iload (q := 79) DM_X8_best_77 rfl rfl ?_
            refine r_goto (q := 83) DM_X8_best_79 (by decide) ?_
            refine v_istoren (q := 84) (ls' := [some (.inr 83), some (.inl x1), some (.inl x2), some (.inl v6), some (.inl x4), some (.inl v6)]) DM_X8_best_83 rfl (by decide) rfl ?_
            refine v_iinc (q := 87) (ls' := [some (.inr 83), some (.inl x1), some (.inl x2), some (.inl v6), some (.inl (x4 + 1)), some (.inl v6)]) DM_X8_best_84 rfl rfl (by decide) rfl ?_
            refine r_goto (q := 29) DM_X8_best_87 (by decide) ?_
            exact Gg.weak [true, true, true, true, true, false] h
      · replace h := h.2 cc
        refine r_iload (q := 61) DM_X8_best_59 rfl rfl ?_
        refine r_goto (q := 65) DM_X8_best_61 (by decide) ?_
        refine v_istoren (q := 66) (ls' := [some (.inr 83), some (.inl x1), some (.inl x4), some (.inl x3), some (.inl x4), some (.inl v6)]) DM_X8_best_65 rfl (by decide) rfl ?_
        refine r_iload (q := 68) DM_X8_best_66 rfl rfl ?_
        refine r_ifeq (q := 71) (t := 77) DM_X8_best_68 rfl (by decide) ⟨i1, fun cc => ?_, fun cc => ?_⟩
        · replace h := h.1 cc
          refine r_iload (q := 79) DM_X8_best_77 rfl rfl ?_
          refine r_goto (q := 83) DM_X8_best_79 (by decide) ?_
          refine v_istoren (q := 84) (ls' := [some (.inr 83), some (.inl x1), some (.inl x4), some (.inl v6), some (.inl x4), some (.inl v6)]) DM_X8_best_83 rfl (by decide) rfl ?_
          refine v_iinc (q := 87) (ls' := [some (.inr 83), some (.inl x1), some (.inl x4), some (.inl v6), some (.inl (x4 + 1)), some (.inl v6)]) DM_X8_best_84 rfl rfl (by decide) rfl ?_
          refine r_goto (q := 29) DM_X8_best_87 (by decide) ?_
          exact Gg.weak [true, true, true, true, true, false] h
        · replace h := h.2 cc
          refine r_iload (q := 73) DM_X8_best_71 rfl rfl ?_
          refine r_iloadn (q := 74) DM_X8_best_73 rfl rfl ?_
          refine r_icge (q := 77) (t := 82) DM_X8_best_74 rfl (by decide) ⟨⟨i9, i10⟩, fun cc => ?_, fun cc => ?_⟩
          · replace h := h.1 cc
            refine r_iloadn (q := 83) DM_X8_best_82 rfl rfl ?_
            refine v_istoren (q := 84) (ls' := [some (.inr 83), some (.inl x1), some (.inl x4), some (.inl x3), some (.inl x4), some (.inl v6)]) DM_X8_best_83 rfl (by decide) rfl ?_
            refine v_iinc (q := 87) (ls' := [some (.inr 83), some (.inl x1), some (.inl x4), some (.inl x3), some (.inl (x4 + 1)), some (.inl v6)]) DM_X8_best_84 rfl rfl (by decide) rfl ?_
            refine r_goto (q := 29) DM_X8_best_87 (by decide) ?_
            exact Gg.weak [true, true, true, true, true, false] h
          · replace h := h.2 cc
            refine r_iload (q := 79) DM_X8_best_77 rfl rfl ?_
            refine r_goto (q := 83) DM_X8_best_79 (by decide) ?_
            refine v_istoren (q := 84) (ls' := [some (.inr 83), some (.inl x1), some (.inl x4), some (.inl v6), some (.inl x4), some (.inl v6)]) DM_X8_best_83 rfl (by decide) rfl ?_
            refine v_iinc (q := 87) (ls' := [some (.inr 83), some (.inl x1), some (.inl x4), some (.inl v6), some (.inl (x4 + 1)), some (.inl v6)]) DM_X8_best_84 rfl rfl (by decide) rfl ?_
            refine r_goto (q := 29) DM_X8_best_87 (by decide) ?_
            exact Gg.weak [true, true, true, true, true, false] h
theorem dayS_eqv {b d : Int} : ∀ (n : Nat) (v w : CV) (L : List Int), eqv v w → eqv (dayS b d n v L).1 (dayS b d n w L).1 ∧ (dayS b d n v L).2 = (dayS b d n w L).2
  | 0, v, w, L, h => ⟨h, rfl⟩
  | n + 1, v, w, L, h => by
    rw [dayS, dayS, h.first, sv_eqv h, h.1 2 (by decide)]
    by_cases c : cFirst w d b ≠ -1 ∧ sv w d < w 0 2
    · rw [if_pos c, if_pos c]; exact dayS_eqv n _ _ _ h.up
    · rw [if_neg c, if_neg c]; exact ⟨h, rfl⟩
theorem runD_eqv {b : Int} : ∀ (m : Nat) (v w : CV) (f : Int), eqv v w → eqv (runD b m v f) (runD b m w f)
  | 0, v, w, f, h => h
  | m + 1, v, w, f, h => runD_eqv m _ _ _ (dayS_eqv 7 v w [] h).1
theorem dayS_8l {b d : Int} : ∀ (n : Nat) (v : CV) (L : List Int), 0 ≤ v 0 1 → ∀ i, (dayS b d n v L).1 8 i = v 8 i ∨ (v 8 i = -1000000 ∧ (dayS b d n v L).1 8 i < v 7 i)
  | 0, v, L, _, i => Or.inl rfl
  | n + 1, v, L, hn, i => by
    rw [dayS]
    split
    · next hc =>
      rcases cFirst_can (v := v) (d := d) (b := b) hn with q | q
      · exact absurd q hc.1
      · have cn := can_none q.2
        rcases dayS_8l n (upv v 8 (cFirst v d b) d) (L ++ [cFirst v d b]) hn i with e | e
        · by_cases hi : i = cFirst v d b
          · subst hi
            rw [upv_self] at e
            exact Or.inr ⟨cn.1, by rw [e]; exact cn.2⟩
          · rw [upv_i hi] at e; exact Or.inl e
        · by_cases hi : i = cFirst v d b
          · subst hi
            rw [upv_self, upv_ne (by decide)] at e
            exact Or.inr ⟨cn.1, e.2⟩
          · rw [upv_i hi, upv_ne (by decide)] at e; exact Or.inr e
    · exact Or.inl rfl
theorem runD_8l {b : Int} : ∀ (m : Nat) (v : CV) (f : Int), 0 ≤ v 0 1 → ∀ i, runD b m v f 8 i = v 8 i ∨ (v 8 i = -1000000 ∧ runD b m v f 8 i < v 7 i)
  | 0, v, f, _, i => Or.inl rfl
  | m + 1, v, f, hn, i => by
    rw [runD]
    have e0 : (dayS b f 7 v []).1 0 = v 0 := dayS_0 7 v [] 0 (by decide)
    have e7 : (dayS b f 7 v []).1 7 = v 7 := dayS_0 7 v [] 7 (by decide)
    have h1 := dayS_8l (b := b) (d := f) 7 v [] hn i
    have h2 := runD_8l (b := b) m (dayS b f 7 v []).1 (f + 1) (by rw [e0]; exact hn) i
    rw [e7] at h2
    rcases h2 with q | q
    · rw [q]; exact h1
    · rcases h1 with r | r
      · rw [r] at q; exact Or.inr q
      · exact Or.inr ⟨r.1, q.2⟩
theorem passN_succ {b : Int} : ∀ (t : Nat) (u : CV), passN b (t + 1) u = (passV (passN b t u) b).1
  | 0, u => rfl
  | t + 1, u => passN_succ t _
/-- on the day 300 later all seats that are taken ever were taken, and all terms are over -/
theorem fore_state {v : CV} {a : Int → Int} {b p : Int} (h : CtOK v a) (h0 : 0 ≤ p) (h1 : p < v 0 1) : cState (passN b 300 v) p (passN b 300 v 0 4) = if passN b 300 v 8 p = -1000000 then 3 else 2 := by
  obtain ⟨⟨-, hv, -, hs⟩, -, h9⟩ := h
  have ok := hv.2.2.2.2.2 p h0 h1
  have o6 := ok.2.2.1
  have o7 := ok.2.2.2.1
  have v4 := hv.2.2.2.1
  have r := runD_8l (b := b) 300 v (v 0 4 + 1) hv.2.1.1 p
  have e7 : runD b 300 v (v 0 4 + 1) 7 = v 7 := runD_0 300 v _ 7 (by decide)
  have e6 : runD b 300 v (v 0 4 + 1) 6 = v 6 := runD_0 300 v _ 6 (by decide)
  rw [passN_run]
  unfold cState
  rw [upv_self, upv_ne (by decide), upv_ne (by decide), upv_ne (by decide), e7, e6]
  by_cases c : runD b 300 v (v 0 4 + 1) 8 p = -1000000
  · rw [if_pos c, if_neg (by omega), if_pos c]
  · have sc := hs p h0 h1
    rw [if_neg c, if_neg (by omega), if_neg c]
theorem cSum_rng {v : CV} (h : Rgv v) (hn : 0 ≤ v 0 1 ∧ v 0 1 ≤ 6) : -12000000 ≤ cSum v ∧ cSum v ≤ 12000000 := by
  have := foldI_inv (g := fun p a => a + (if cSeat v p = true then v 8 p else v 7 p)) (a := (0 : Int)) (I := fun p a => -2000000 * p ≤ a ∧ a ≤ 2000000 * p) (N := v 0 1) (by decide) (fun p x p0 p1 hx => by
    have a := h 8 p (by decide)
    have b := h 7 p (by decide)
    show -2000000 * (p + 1) ≤ x + _ ∧ x + _ ≤ 2000000 * (p + 1)
    split <;> omega) (v 0 1) hn.1 (Int.le_refl _)
  unfold cSum
  omega
theorem cSum_day {v : CV} {x : Int} : cSum (upv v 0 4 x) = cSum v := rfl
/-- the least by a question, the first of them -/
def pkN (c : Int → Int → Bool) (n : Int) : Int := foldI (fun k b => if c (k + 1) b then k + 1 else b) 0 (n - 1)
theorem pkN_1 {c : Int → Int → Bool} : pkN c 1 = 0 := rfl
theorem pkN_s {c : Int → Int → Bool} {k : Int} (hk : 1 ≤ k) : pkN c (k + 1) = if c k (pkN c k) then k else pkN c k := by
  unfold pkN
  rw [show k + 1 - 1 = (k - 1) + 1 by omega, foldI_succ (by omega), show k - 1 + 1 = k by omega]
theorem pkN_rng {c : Int → Int → Bool} : ∀ k, 1 ≤ k → k ≤ 8 → 0 ≤ pkN c k ∧ pkN c k < k := by
  have gr : ∀ n : Nat, n < 8 → 0 ≤ pkN c ((n : Int) + 1) ∧ pkN c ((n : Int) + 1) < (n : Int) + 1 := by
    intro n
    induction n with
    | zero => intro _; rw [show ((0 : Nat) : Int) + 1 = 1 from rfl, pkN_1]; decide
    | succ n ih =>
      intro hn
      have := ih (by omega)
      rw [show (((n + 1 : Nat)) : Int) = (n : Int) + 1 by omega, pkN_s (by omega)]
      split <;> omega
  intro k k1 k8
  have := gr (k - 1).toNat (by omega)
  rwa [Int.toNat_of_nonneg (by omega), show k - 1 + 1 = k by omega] at this
def clip (μ : Mem) (c : Nat) (n : Int) : Mem := fun k i => if k = c ∧ ¬ (0 ≤ i ∧ i < n) then 0 else μ k i
theorem clip_ne {μ : Mem} {c k : Nat} {n : Int} (h : k ≠ c) : clip μ c n k = μ k := by funext i; unfold clip; rw [if_neg (fun q => h q.1)]
theorem clip_in {μ : Mem} {c : Nat} {n i : Int} (h : 0 ≤ i ∧ i < n) : clip μ c n c i = μ c i := by unfold clip; rw [if_neg (fun q => q.2 h)]
theorem clip_out {μ : Mem} {c : Nat} {n i : Int} (h : ¬ (0 ≤ i ∧ i < n)) : clip μ c n c i = 0 := by unfold clip; rw [if_pos ⟨rfl, h⟩]
theorem clip_agr {μ : Mem} {c n : Nat} (hc : shp c = (0, n, [])) : agr μ (clip μ c n) := by
  intro k i hk i0 i1
  unfold clip
  by_cases e : k = c
  · subst e
    rw [hc] at i1
    rw [if_neg (fun q => q.2 ⟨i0, i1⟩)]
  · rw [if_neg (fun q => e q.1)]
section P60
variable {E : Ex} {μ : Mem} {Q : Option Vl → Mem → Prop} {x1 x2 b : Int} {v : CV}
theorem k_X7_foretell {a : Int → Int} (hC : CtOK (cv μ 4) a) (g4 : RgC μ 4) (g14 : RgC μ 14) (hRo : RoOk E) (hs : μ 4 0 = 1) (h : ∀ μ1 : Mem, (∀ k, (k < 14 ∨ 24 ≤ k) → μ1 k = μ k) → RgC μ1 14 → eqv (cv μ1 14) (runD b 300 (cv μ 4) (μ 4 4 + 1)) → Q (some (.inr 14)) μ1) : Cl E 5 M_X7_foretell [.inr 0, .inl b] μ Q := by
  refine s_X7_foretell ⟨by decide, Or.inr hs, fun μ3 h3 => ?_⟩
  have v4 := hC.1.2.1.2.2.2.1
  have v1 := hC.1.2.1.2.1
  have v0 := hC.1.2.1.1
  have v9 := hC.2.2
  replace v4 : 0 ≤ μ 4 4 ∧ μ 4 4 ≤ 1500 := v4
  replace v9 : μ 4 4 ≤ 999 := v9
  have e3 : eqv (cv μ 4) (cv μ3 14) := by rw [h3.1]; exact eqv.tk.symm
  have g3 : RgC μ3 14 := cv_rng h3.1 (Rgv.tk (Rgv.of g14) (Rgv.of g4))
  have f4 : μ3 4 = μ 4 := h3.2 4 (by omega)
  have C3 := hC.eqv e3
  have d3 : cv μ3 14 0 4 = μ 4 4 := (e3.1 4 (by decide)).symm
  rw [f4]
  refine ⟨g3, hRo, C3.1.2.1, by omega, fun μ8 h8 => h μ8 (fun k hk => by rw [h8.2 k (by omega), h3.2 k (by omega)]) ?_ ?_⟩
  · refine cv_rng h8.1 (Rgv.seats (Rgv.of g3) (by omega) C3.1.2.1.2.1 ?_)
    rw [d3]; omega
  · rw [h8.1]
    have hs2 : 1 ≤ cv μ3 14 0 2 := by
      rw [← e3.1 2 (by decide)]
      rcases v0 with q | q
      · exact absurd (show μ 4 0 = 0 from q.1) (by omega)
      · exact q.2.1.1
    have sr := seats_run (v := cv μ3 14) (b := b) (m := 300) C3.tOK hs2 (by rw [d3]; omega) (by rw [d3]; omega) C3.2.1
    rw [d3] at sr
    exact sr.trans (runD_eqv 300 _ _ _ e3.symm)
def goR (μ μ1 : Mem) : Prop := (∀ i, i ≠ 23 → μ1 83 i = μ 83 i) ∧ ∀ k, k ≠ 83 → k ≠ 91 → k ≠ 96 → μ1 k = μ k
theorem k_X8_goes (hC : CtOK v (μ 89)) (hs : v 0 0 = 1) (hb : 0 ≤ b ∧ b < 1000) (h : ∀ μ1 : Mem, Rel (passN b 300 v) (μ1 91) → goR μ μ1 → Q none μ1) : Cl E 5 M_X8_goes [.inr 83, .inl b] μ Q := by
  have v4 := hC.1.2.1.2.2.2.1
  have v9 := hC.2.2
  refine s_X8_goes (k_X8_copies sh_89 (by decide) sh_91 (by decide) (by decide) (by decide) (by decide) (fun μ1 o1 o2 o3 => ⟨rfl, ?_⟩))
  refine Gg.agr (clip_agr (c := 91) (n := 91) sh_91) ?_
  obtain ⟨μ2, e2⟩ : ∃ μ2, μ2 = clip μ1 91 91 := ⟨_, rfl⟩
  have k2 : ∀ k, k ≠ 91 → μ2 k = μ k := fun k hk => by rw [e2, clip_ne hk, o1 k hk]
  have r2 : Rel v (μ2 91) := by
    refine hC.1.arr (fun i i0 i1 => ?_) (fun i => ?_)
    · have := o2 i i0 i1
      rw [Int.zero_add] at this
      rw [e2, clip_in ⟨i0, i1⟩, this]
    · rw [e2]
      by_cases hi : 0 ≤ i ∧ i < 91
      · have := o2 i hi.1 hi.2
        rw [Int.zero_add] at this
        rw [clip_in hi, this]; exact hC.1.2.2.1 i
      · rw [clip_out hi]; omega
  show Gg E 5 M_X8_goes 15 [some (.inr 83), some (.inl b), some (.inl 0)] [] (clip μ1 91 ((91 : Nat) : Int)) Q
  rw [show clip μ1 91 ((91 : Nat) : Int) = μ2 from e2.symm]
  have d0 : ∀ t : Nat, passN b t v 0 4 = v 0 4 + t := fun t => by rw [passN_run, upv_self]
  have s0 : ∀ t : Nat, passN b t v 0 0 = 1 := fun t => by rw [passN_run, upv_i (by decide), runD_0 t _ _ 0 (by decide)]; exact hs
  have loop : ∀ (r t : Nat), t + r = 300 → ∀ μt : Mem, Rel (passN b t v) (μt 91) → goR μ μt → Gg E 5 M_X8_goes 15 [some (.inr 83), some (.inl b), some (.inl ((t : Nat) : Int))] [] μt Q := by
    intro r
    induction r with
    | zero =>
      intro t ht μt hR hg
      have : t = 300 := by omega
      subst this
      exact s_X8_goes_15 ⟨by decide, fun _ => h μt hR hg, fun z => absurd (by decide) z⟩
    | succ r ih =>
      intro t ht μt hR hg
      refine s_X8_goes_15 ⟨by omega, fun z => absurd z (by omega), fun _ => k_X8_passes (v := passN b t v) sh_91 (by decide) hR hb (by rw [d0]; omega) (s0 t) (fun μw hw => ⟨rfl, ?_⟩)⟩
      obtain ⟨w1, w2, w3, w4, w5⟩ := hw
      have := ih (t + 1) (by omega) μw (by rw [passN_succ]; exact w1) ⟨fun i hi => by rw [w4 i hi, hg.1 i hi], fun k a c d => by rw [w5 k c a d, hg.2 k a c d]⟩
      rwa [show (((t + 1 : Nat)) : Int) = (t : Int) + 1 by omega] at this
  exact loop 300 0 rfl μ2 r2 ⟨fun i _ => by rw [k2 83 (by decide)], fun k _ a _ => k2 k a⟩
theorem k_X8_waitedTried {w : CV} (hR : Rel w (μ 91)) (hst : ∀ p, 0 ≤ p → p < w 0 1 → cState w p (w 0 4) = if w 8 p = -1000000 then 3 else 2) (h : Q (some (.inl (cSum w))) μ) : Cl E 1 M_X8_waitedTried [.inr 83] μ Q := by
  have hn := hR.n
  have e2 := hR.a2
  refine s_X8_waitedTried ?_
  obtain ⟨g, eg⟩ : ∃ g : Int → Int → Int, g = fun p a => a + (if cSeat w p = true then w 8 p else w 7 p) := ⟨_, rfl⟩
  have eS : cSum w = foldI g 0 (w 0 1) := by rw [eg]; rfl
  rw [eS] at h
  refine up_ind (N := w 0 1) (P := fun p => Gg E 1 M_X8_waitedTried 4 [some (.inr 83), some (.inl (foldI g 0 p)), some (.inl p), none, none] [] μ Q) 0 hn.1 ?_ (fun p h1 h2 ih => ?_)
  · exact s_X8_waitedTried_4 ⟨by omega, by omega, fun _ => h, fun z => absurd (show w 0 1 ≥ μ 91 2 by omega) z⟩
  · rw [foldI_succ h1] at ih
    obtain ⟨-, -, -, -, -, -, -, p10, -, p12⟩ := hR.p h1 h2
    have o7 := (hR.ok h1 h2).2.2.2.1
    have sc := hR.2.2.2 p h1 h2
    have v4 := hR.2.1.2.2.2.1
    have st := hst p h1 h2
    obtain ⟨n, en⟩ : ∃ n, n = foldI g 0 p := ⟨_, rfl⟩
    rw [← en] at ih ⊢
    rw [eg] at ih
    refine s_X8_waitedTried_4 ⟨by omega, by omega, fun z => absurd z (by omega), fun _ => ⟨by omega, by omega, by omega, fun z => ?_, fun z => ?_⟩⟩
    · rw [p10] at z
      rw [if_pos z] at st
      rw [st, if_pos rfl] at p12
      replace ih : Gg E 1 M_X8_waitedTried 4 [some (.inr 83), some (.inl (n + (if cSeat w p = true then w 8 p else w 7 p))), some (.inl (p + 1)), none, none] [] μ Q := ih
      rw [if_neg (by unfold cSeat; rw [decide_eq_false (fun q => q z)]; decide)] at ih
      refine ⟨by omega, fun z2 => absurd z2 (by omega), fun _ => ?_⟩
      rw [p12]; exact ih
    · rw [p10] at z
      replace ih : Gg E 1 M_X8_waitedTried 4 [some (.inr 83), some (.inl (n + (if cSeat w p = true then w 8 p else w 7 p))), some (.inl (p + 1)), none, none] [] μ Q := ih
      rw [if_pos (show cSeat w p = true from decide_eq_true z)] at ih
      rw [p10]; exact ih
theorem Inv.fore2 {μa μ1 : Mem} (hI : Inv μ) (ha : ∀ k, (k < 14 ∨ 24 ≤ k) → μa k = μ k) (hg : RgC μa 14) (h : goR μa μ1) : Inv μ1 := by
  refine hI.fore (fun k hk => by rw [h.2 k (by omega) (by omega) (by omega), ha k (by omega)]) (fun i hi => by rw [h.1 i hi, ha 83 (by omega)]) (hg.cg (fun k a b => h.2 k (by omega) (by omega) (by omega))) (hI.2.2.2.2.2.2.2.2.2.1.cg (fun k a b => by rw [h.2 k (by omega) (by omega) (by omega), ha k (by omega)]))
theorem pr_when (hI : Inv μ) (hRo : RoOk E) (i1 : inR x1) (i2 : inR x2) : Pair E 6 M_X7_when 6 M_X8_when [.inl x1, .inl x2] μ := by
  have hC := hI.2.2.2.2.1
  have hR := hC.1
  have g4 := hI.2.2.2.2.2.2.2.1
  have g14 := hI.2.2.2.2.2.2.2.2.1
  have e2 : μ 89 2 = μ 4 1 := hR.a2
  obtain ⟨v0, v1, -⟩ := hR.2.1
  simp only [cv, Nat.add_zero] at v0 v1
  refine s_X7_when i1 i2 ⟨by omega, fun z1 => ⟨_, rfl, by decide, s_X8_when i1 i2 ⟨by omega, fun _ => ⟨rfl, hI⟩, fun q => absurd (by omega) z1⟩⟩, fun z1 => ⟨fun z2 => ?_, fun z2 => ⟨_, rfl, by decide, s_X8_when i1 i2 ⟨by omega, fun q => absurd (by omega) q, fun _ => ⟨fun q => absurd (by omega) z2, fun _ => ⟨rfl, hI⟩⟩⟩⟩⟩⟩
  have hs : μ 4 0 = 1 := by
    rcases v0 with q | q
    · omega
    · exact q.1
  refine k_X7_foretell hC g4 g14 hRo hs (fun μa oa ga ea => ⟨rfl, ?_⟩)
  obtain ⟨w, ew⟩ : ∃ w, w = passN 0 300 (cv μ 4) := ⟨_, rfl⟩
  have wR : ∀ j, j ≠ 0 → w j = runD 0 300 (cv μ 4) (μ 4 4 + 1) j := fun j hj => by rw [ew, passN_run, upv_ne hj]; rfl
  have w8 : μa (14 + 8) x1 = w 8 x1 := by rw [wR 8 (by decide), ← ea.2 8 (by decide) (by decide)]; rfl
  have w7 : μa (14 + 7) x1 = w 7 x1 := by rw [wR 7 (by decide), ← ea.2 7 (by decide) (by decide)]; rfl
  have w6 : μa (14 + 6) x1 = w 6 x1 := by rw [wR 6 (by decide), ← ea.2 6 (by decide) (by decide)]; rfl
  have st := fore_state (b := 0) hC z1.1 z1.2
  rw [← ew] at st
  have ga8 := ga 8 x1 (by decide)
  have ga7 := ga 7 x1 (by decide)
  have ga6 := ga 6 x1 (by decide)
  have ref : ∀ r, (∀ c : Int → Int, rP w c x1 → c (13 + 13 * x1 + (10 + x2)) = r) → Cl E 6 M_X8_when [.inr 83, .inl x1, .inl x2] μa (fun w μ2 => w = some (.inl r) ∧ Inv μ2) := by
    intro r hr
    have f89 : μa 89 = μ 89 := oa 89 (by omega)
    refine s_X8_when i1 i2 ?_
    rw [f89]
    refine ⟨by omega, fun q => absurd (by omega) q, fun _ => ⟨fun _ => k_X8_goes (v := cv μ 4) (by rw [f89]; exact hC) hs (by decide) (fun μb hb gb => ⟨rfl, by omega, ?_, hI.fore2 oa ga gb⟩), fun q => absurd (by omega) q⟩⟩
    rw [← ew] at hb
    rw [hr (μb 91) (hb.p z1.1 (by rw [ew, passN_run, upv_i (by decide), runD_0 300 _ _ 0 (by decide)]; exact z1.2))]
  have seat : cSeat (cv μa 14) x1 = decide (w 8 x1 ≠ -1000000) := by
    unfold cSeat
    rw [show cv μa 14 8 x1 = w 8 x1 from w8]
  refine ⟨fun z => k_X2_isSeated cK_14 ga (by omega) ⟨_, rfl, fun q => ?_, fun q => ?_⟩, fun z => k_X2_isSeated cK_14 ga (by omega) ⟨_, rfl, fun q => ?_, fun q => ?_⟩⟩ <;> rw [seat] at q
  · have q := of_decide_eq_true q
    rw [if_neg q] at st
    refine ⟨fun y => ⟨by omega, _, rfl, by omega, ref _ (fun c hc => ?_)⟩, fun y => ⟨by omega, _, rfl, by omega, ref _ (fun c hc => ?_)⟩⟩
    · have := hc.2.2.2.2.2.2.2.2.1
      rw [show x2 = 1 by omega, show (10 : Int) + 1 = 11 from rfl, this, st, if_pos rfl, w8, w6]
    · have := hc.2.2.2.2.2.2.2.1
      rw [show x2 = 0 by omega, show (10 : Int) + 0 = 10 from rfl, this, w8]
  · have q := Decidable.of_not_not (of_decide_eq_false q)
    rw [if_pos q] at st
    refine ⟨_, rfl, by decide, ref _ (fun c hc => ?_)⟩
    rcases (show x2 = 0 ∨ x2 = 1 by omega) with e | e
    · have := hc.2.2.2.2.2.2.2.1
      rw [e, show (10 : Int) + 0 = 10 from rfl, this, q]
    · have := hc.2.2.2.2.2.2.2.2.1
      rw [e, show (10 : Int) + 1 = 11 from rfl, this, st]; rfl
  · have q := Decidable.of_not_not (of_decide_eq_false q)
    rw [if_pos q] at st
    refine ⟨by omega, _, rfl, by omega, ref _ (fun c hc => ?_)⟩
    have := hc.2.2.2.2.2.2.2.2.2
    rw [z, show (10 : Int) + 2 = 12 from rfl, this, st, if_pos rfl, w7]
  · have q := of_decide_eq_true q
    rw [if_neg q] at st
    refine ⟨_, rfl, by decide, ref _ (fun c hc => ?_)⟩
    have := hc.2.2.2.2.2.2.2.2.2
    rw [z, show (10 : Int) + 2 = 12 from rfl, this, st]; rfl
/-- what all wait, by so many turns besides -/
def fSum (v : CV) (b : Int) : Int := cSum (runD b 300 v (v 0 4 + 1))
theorem fSum_passN {v : CV} {b : Int} : cSum (passN b 300 v) = fSum v b := by rw [passN_run, cSum_day]; rfl
theorem k_X8_waited0 (hC : CtOK v (μ 89)) (hs : v 0 0 = 1) (h : ∀ μ1 : Mem, goR μ μ1 → Q (some (.inl (fSum v 0))) μ1) : Cl E 6 M_X8_waited [.inr 83] μ Q := by
  have a0 := hC.1.1.1
  have v0 := hC.1.2.1.1
  have hst : 1 ≤ v 0 2 ∧ v 0 2 ≤ 4 := by
    rcases v0 with q | q
    · omega
    · exact q.2.1
  refine s_X8_waited ⟨by omega, fun _ => k_X8_goes hC hs (by decide) (fun μ1 h1 g1 => ⟨rfl, k_X8_waitedTried h1 (fun p p0 p1 => fore_state (b := 0) hC p0 (by rwa [passN_run, upv_i (by decide), runD_0 300 _ _ 0 (by decide)] at p1)) ⟨_, rfl, ?_⟩⟩), fun q => absurd (show 0 < μ 89 0 by omega) q⟩
  rw [fSum_passN]; exact h μ1 g1
theorem pr_waited (hI : Inv μ) (hRo : RoOk E) : Pair E 6 M_X7_waited 6 M_X8_waited [] μ := by
  have hC := hI.2.2.2.2.1
  have g4 := hI.2.2.2.2.2.2.2.1
  have g14 := hI.2.2.2.2.2.2.2.2.1
  have a0 : μ 89 0 = μ 4 2 := hC.1.1.1
  obtain ⟨v0, v1, -⟩ := hC.1.2.1
  simp only [cv, Nat.add_zero] at v0 v1
  refine s_X7_waited ⟨by omega, fun z => ⟨_, rfl, by decide, s_X8_waited ⟨by omega, fun q => absurd q (by omega), fun _ => ⟨rfl, hI⟩⟩⟩, fun z => ?_⟩
  have hs : μ 4 0 = 1 := by omega
  refine k_X7_foretell hC g4 g14 hRo hs (fun μa oa ga ea => ?_)
  have n1 : μa 14 1 = μ 4 1 := by
    have := ea.1 1 (by decide)
    rw [runD_0 300 _ _ 0 (by decide)] at this
    exact this
  have cr := cSum_rng (Rgv.of ga) (show 0 ≤ μa 14 1 ∧ μa 14 1 ≤ 6 by omega)
  have f89 : μa 89 = μ 89 := oa 89 (by omega)
  refine ⟨rfl, ga, by omega, _, rfl, by omega, k_X8_waited0 (v := cv μ 4) (by rw [f89]; exact hC) hs (fun μ1 g1 => ⟨?_, hI.fore2 oa ga g1⟩)⟩
  rw [ea.sum]; rfl
theorem fSum_rng {a : Int → Int} (hC : CtOK v a) (hg : Rgv v) (hs : v 0 0 = 1) : inR (fSum v b) := by
  have v0 := hC.1.2.1.1
  have v1 := hC.1.2.1.2.1
  have v4 := hC.1.2.1.2.2.2.1
  have v9 := hC.2.2
  have hs2 : 1 ≤ v 0 2 := by
    rcases v0 with q | q
    · omega
    · exact q.2.1.1
  have sr := seats_run (v := v) (b := b) (m := 300) hC.tOK hs2 v4.1 (by omega) hC.2.1
  have e : fSum v b = cSum (cSeats v (v 0 4 + (300 : Nat)) b) := sr.sum.symm
  have n : cSeats v (v 0 4 + (300 : Nat)) b 0 1 = v 0 1 := by rw [sr.1 1 (by decide), runD_0 300 _ _ 0 (by decide)]
  have := cSum_rng (Rgv.seats (e := v 0 4 + (300 : Nat)) (b := b) hg (by omega) v1 (by omega)) (by rw [n]; exact v1)
  rw [e]; omega
theorem pr_best (hI : Inv μ) (hRo : RoOk E) (i1 : inR x1) : Pair E 6 M_X7_best 6 M_X8_best [.inl x1] μ := by
  have hC := hI.2.2.2.2.1
  have g4 := hI.2.2.2.2.2.2.2.1
  have g14 := hI.2.2.2.2.2.2.2.2.1
  have a0 : μ 89 0 = μ 4 2 := hC.1.1.1
  obtain ⟨v0, v1, -⟩ := hC.1.2.1
  simp only [cv, Nat.add_zero] at v0 v1
  refine s_X7_best i1 ⟨by omega, fun z => ⟨fun z1 => ?_, fun z1 => ⟨_, rfl, by decide, s_X8_best i1 ⟨by omega, fun _ => ⟨fun q => absurd (by omega) z1, fun _ => ⟨rfl, hI⟩⟩, fun q => absurd (show 0 < μ 89 0 by omega) q⟩⟩⟩, fun z => ⟨_, rfl, by decide, s_X8_best i1 ⟨by omega, fun q => absurd q (by omega), fun _ => ⟨rfl, hI⟩⟩⟩⟩
  have hs : μ 4 0 = 1 := by omega
  obtain ⟨f, ef⟩ : ∃ f : Int → Int, f = fSum (cv μ 4) := ⟨_, rfl⟩
  have fr : ∀ b, inR (f b) := fun b => by rw [ef]; exact fSum_rng hC (Rgv.of g4) hs
  have fore1 : ∀ (μ' : Mem) (b : Int) (R : Option Vl → Mem → Prop), (∀ k, (k < 14 ∨ 24 ≤ k) → μ' k = μ k) → RgC μ' 14 → (∀ μb : Mem, (∀ k, (k < 14 ∨ 24 ≤ k) → μb k = μ k) → RgC μb 14 → (0 ≤ μb 14 1 ∧ μb 14 1 ≤ 6) → cSum (cv μb 14) = f b → R (some (.inr 14)) μb) → Cl E 5 M_X7_foretell [.inr 0, .inl b] μ' R := by
    intro μ' b R o g h
    have e4 : eqv (cv μ 4) (cv μ' 4) := cv_eqv (fun k a b => o k (by omega))
    refine k_X7_foretell (hC.eqv e4) (g4.cg (fun k a b => o k (by omega))) g hRo (by rw [o 4 (by omega)]; exact hs) (fun μb ob gb eb => ?_)
    rw [o 4 (by omega)] at eb
    have eb := eb.trans (runD_eqv (b := b) 300 _ _ (μ 4 4 + 1) e4.symm)
    have n1 : μb 14 1 = μ 4 1 := by
      have := eb.1 1 (by decide)
      rw [runD_0 300 _ _ 0 (by decide)] at this
      exact this
    exact h μb (fun k hk => by rw [ob k hk, o k hk]) gb (by omega) (by rw [ef, eb.sum]; rfl)
  obtain ⟨c, ec⟩ : ∃ c : Int → Int → Bool, c = fun k b => decide (f k < f b) := ⟨_, rfl⟩
  have cT : ∀ {k b : Int}, ¬ f k ≥ f b → c k b = true := fun h => by rw [ec]; exact decide_eq_true (by omega)
  have cF : ∀ {k b : Int}, f k ≥ f b → ¬ c k b = true := fun h => by rw [ec]; intro q; have := of_decide_eq_true q; omega
  refine fore1 μ 0 _ (fun _ _ => rfl) g14 (fun μa oa ga na sa => ⟨rfl, ga, na, ?_⟩)
  rw [sa]
  obtain ⟨P, eP⟩ : ∃ P : Option Vl → Mem → Prop, P = (fun v μ1 => ∃ r, v = some (.inl r) ∧ inR r ∧ Cl E 6 M_X8_best [.inr 83, .inl x1] μ1 (fun w μ2 => w = some (.inl r) ∧ Inv μ2)) := ⟨_, rfl⟩
  have loop : ∀ μ' : Mem, (∀ k, (k < 14 ∨ 24 ≤ k) → μ' k = μ k) → RgC μ' 14 → Gg E 6 M_X7_best 38 [some (.inr 0), some (.inl x1), some (.inl (pkN c 1)), some (.inl (f (pkN c 1))), some (.inl 1), none] [] μ' P := by
    refine up_ind (N := 8) (P := fun k => ∀ μ' : Mem, (∀ k, (k < 14 ∨ 24 ≤ k) → μ' k = μ k) → RgC μ' 14 → Gg E 6 M_X7_best 38 [some (.inr 0), some (.inl x1), some (.inl (pkN c k)), some (.inl (f (pkN c k))), some (.inl k), none] [] μ' P) 1 (by decide) (fun μ' o g => ?_) (fun k k1 k8 ih μ' o g => ?_)
    · have rg := pkN_rng (c := c) 8 (by decide) (by decide)
      have rf : ∀ r, (x1 ≠ 0 → r = f (pkN c 8)) → (x1 = 0 → r = pkN c 8) → Cl E 6 M_X8_best [.inr 83, .inl x1] μ' (fun w μ2 => w = some (.inl r) ∧ Inv μ2) := by
        intro r r1 r2
        have f89 : μ' 89 = μ 89 := o 89 (by omega)
        refine s_X8_best i1 ?_
        rw [f89]
        refine ⟨by omega, fun _ => ⟨fun _ => ?_, fun q => absurd (by omega) q⟩, fun q => absurd (show 0 < μ 89 0 by omega) q⟩
        have go1 : ∀ (μt : Mem) (b : Int), goR μ' μt → (0 ≤ b ∧ b < 1000) → ∀ R : Option Vl → Mem → Prop, (∀ μ1 : Mem, goR μ' μ1 → R (some (.inl (f b))) μ1) → Cl E 5 M_X8_goes [.inr 83, .inl b] μt (fun vv μ3 => vv = none ∧ Cl E 1 M_X8_waitedTried [.inr 83] μ3 R) := by
          intro μt b gt hb R hR
          refine k_X8_goes (v := cv μ 4) (by rw [gt.2 89 (by decide) (by decide) (by decide), f89]; exact hC) hs hb (fun μ1 h1 g1 => ⟨rfl, k_X8_waitedTried h1 (fun p p0 p1 => fore_state (b := b) hC p0 (by rwa [passN_run, upv_i (by decide), runD_0 300 _ _ 0 (by decide)] at p1)) ?_⟩)
          rw [fSum_passN, ← ef]
          exact hR μ1 ⟨fun i hi => by rw [g1.1 i hi, gt.1 i hi], fun k a b d => by rw [g1.2 k a b d, gt.2 k a b d]⟩
        have lp : ∀ μt : Mem, goR μ' μt → Gg E 6 M_X8_best 29 [some (.inr 83), some (.inl x1), some (.inl (pkN c 1)), some (.inl (f (pkN c 1))), some (.inl 1), none] [] μt (fun w μ2 => w = some (.inl r) ∧ Inv μ2) := by
          refine up_ind (N := 8) (P := fun k => ∀ μt : Mem, goR μ' μt → Gg E 6 M_X8_best 29 [some (.inr 83), some (.inl x1), some (.inl (pkN c k)), some (.inl (f (pkN c k))), some (.inl k), none] [] μt (fun w μ2 => w = some (.inl r) ∧ Inv μ2)) 1 (by decide) (fun μt gt => ?_) (fun k k1 k8 ih μt gt => ?_)
          · exact s_X8_best_29 ⟨by decide, fun _ => ⟨i1, fun z => ⟨by rw [r1 z], hI.fore2 o g gt⟩, fun z => ⟨by rw [r2 z], hI.fore2 o g gt⟩⟩, fun z => absurd (by decide) z⟩
          · rw [pkN_s k1] at ih
            have ra := fr k
            have rb := fr (pkN c k)
            refine s_X8_best_29 ⟨by omega, fun z => absurd z (by omega), fun _ => go1 μt k gt (by omega) _ (fun μ1 g1 => ⟨_, rfl, fun q => absurd q (by omega), fun _ => ⟨ra, rb, fun y => ⟨fun q => absurd q (by omega), fun _ => ⟨fun _ => ?_, fun q => absurd y q⟩⟩, fun y => ⟨fun q => absurd q (by omega), fun _ => ⟨fun q => absurd q y, fun _ => ?_⟩⟩⟩⟩)⟩
            · rw [if_neg (cF y)] at ih; exact ih μ1 g1
            · rw [if_pos (cT y)] at ih; exact ih μ1 g1
        exact s_X8_best_29 ⟨by decide, fun q => absurd q (by decide), fun _ => go1 μ' 0 ⟨fun _ _ => rfl, fun _ _ _ _ => rfl⟩ (by decide) _ (fun μ1 g1 => ⟨_, rfl, fun _ => ⟨fun _ => lp μ1 g1, fun q => absurd rfl q⟩, fun q => absurd rfl q⟩)⟩
      have r8 := fr (pkN c 8)
      rw [eP]
      exact s_X7_best_38 ⟨by decide, fun _ => ⟨i1, fun z => ⟨_, rfl, by omega, rf _ (fun _ => rfl) (fun q => absurd q z)⟩, fun z => ⟨_, rfl, by omega, rf _ (fun q => absurd z q) (fun _ => rfl)⟩⟩, fun z => absurd (by decide) z⟩
    · rw [pkN_s k1] at ih
      refine s_X7_best_38 ⟨by omega, fun z => absurd z (by omega), fun _ => fore1 μ' k _ o g (fun μb ob gb nb sb => ⟨rfl, gb, nb, ?_⟩)⟩
      rw [sb]
      refine ⟨fr k, fr _, fun y => ?_, fun y => ?_⟩
      · rw [if_neg (cF y)] at ih; exact ih μb ob gb
      · rw [if_pos (cT y)] at ih; exact ih μb ob gb
  rw [eP] at loop
  exact loop μa oa ga
end P60

/-! Pairs: days, forged and lost letters, undoing, images. -/
set_option maxRecDepth 20000 in
theorem s_X8_days {E : Ex} {μ : Mem} {Q : Option Vl → Mem → Prop} {x1 : Int}  (ix1 : inR x1) (h : inR (μ 89 0) ∧ ((0 < μ 89 0) → ((1 ≤ x1 ∧ x1 ≤ 20) → inR ((μ 89 3) + x1) ∧ (((μ 89 3) + x1) ≤ 999 → Gg E 5 M_X8_days 42 [some (.inr 83), some (.inl x1), some (.inl 0)] [] μ Q) ∧ (¬ ((μ 89 3) + x1) ≤ 999 → Q (some (.inl (-1000003))) μ)) ∧ (¬ (1 ≤ x1 ∧ x1 ≤ 20) → Q (some (.inl (-1000001))) μ)) ∧ (¬ (0 < μ 89 0) → Q (some (.inl (-1000002))) μ)) : Cl E 5 M_X8_days [.inr 83, .inl x1] μ Q := by
  show Gg E 5 M_X8_days 0 [some (.inr 83), some (.inl x1), none] [] μ Q
  refine r_aloadn (q := 1) DM_X8_days_0 rfl rfl ?_
  have i1 := h.1
  replace h := h.2
  refine r_callVi [] (q := 4) DM_X8_days_1 rfl kM_X8_isCourt lRX8_200 sh_83 rfl rfl (by decide) (Nat.le_of_ble_eq_true rfl) rfl (k_X8_isCourt i1 ⟨_, rfl, ?_⟩)
  refine r_bine (q := 7) (t := 10) DM_X8_days_4 rfl (by decide) ⟨fun cc => ?_, fun cc => ?_⟩
  · replace h := h.1 cc
    refine r_iloadn (q := 11) DM_X8_days_10 rfl rfl ?_
    refine r_iconst (q := 12) (n := 1) DM_X8_days_11 rfl ?_
    refine r_bipush (q := 14) (n := 20) DM_X8_days_12 rfl (by decide) ?_
    refine r_callSi [.inl x1, .inl 1, .inl 20] (q := 17) DM_X8_days_14 rfl kM_X8_in lRX8_65 rfl (by decide) (Nat.le_of_ble_eq_true rfl) rfl (k_X8_in ix1 (by decide) (by decide) ⟨_, rfl, ?_⟩)
    refine r_bine (q := 20) (t := 23) DM_X8_days_17 rfl (by decide) ⟨fun cc => ?_, fun cc => ?_⟩
    · replace h := h.1 cc
      refine r_aloadn (q := 24) DM_X8_days_23 rfl rfl ?_
      refine r_getR (q := 27) (r := 89) DM_X8_days_24 rfl fRX8_25 sh_83 rfl ?_
      refine r_iconst (q := 28) (n := 3) DM_X8_days_27 rfl ?_
      refine r_iald (q := 29) DM_X8_days_28 rfl sh_89 (by decide) ⟨by decide, ?_⟩
      refine r_iloadn (q := 30) DM_X8_days_29 rfl rfl ?_
      refine r_iadd (q := 31) DM_X8_days_30 rfl ?_
      refine r_sipush (q := 34) (n := 999) DM_X8_days_31 rfl (by decide) ?_
      have i2 := h.1
      replace h := h.2
      refine r_icle (q := 37) (t := 40) DM_X8_days_34 rfl (by decide) ⟨⟨i2, (by decide)⟩, fun cc => ?_, fun cc => ?_⟩
      · replace h := h.1 cc
        refine r_iconst (q := 41) (n := 0) DM_X8_days_40 rfl ?_
        refine v_istoren (q := 42) (ls' := [some (.inr 83), some (.inl x1), some (.inl 0)]) DM_X8_days_41 rfl (by decide) rfl ?_
        exact h
      · replace h := h.2 cc
        refine r_ldc (q := 39) (n := (-1000003)) DM_X8_days_37 rfl nRX8_94 ?_
        exact r_ret (v := some (.inl (-1000003))) ⟨DM_X8_days_39, Or.inl rfl⟩ h
    · replace h := h.2 cc
      refine r_ldc (q := 22) (n := (-1000001)) DM_X8_days_20 rfl nRX8_73 ?_
      exact r_ret (v := some (.inl (-1000001))) ⟨DM_X8_days_22, Or.inl rfl⟩ h
  · replace h := h.2 cc
    refine r_ldc (q := 9) (n := (-1000002)) DM_X8_days_7 rfl nRX8_203 ?_
    exact r_ret (v := some (.inl (-1000002))) ⟨DM_X8_days_9, Or.inl rfl⟩ h
set_option maxRecDepth 20000 in
theorem s_X8_days_42 {E : Ex} {μ : Mem} {Q : Option Vl → Mem → Prop} {x1 x2 : Int}  (h : inR x2 ∧ inR x1 ∧ (x2 ≥ x1 → Cl E 1 M_X8_manySo [.inr 89, .inl 0] μ (fun vv μ3 => ∃ v4, vv = some (.inl v4) ∧ Q (some (.inl v4)) μ3)) ∧ (¬ x2 ≥ x1 → (0 ≤ μ 83 17 ∧ μ 83 17 ≤ 24) ∧ ∀ μ6 : Mem, ntR μ μ6 → Cl E 4 M_X8_passes [.inr 83, .inr 89, .inl 0] μ6 (fun vv μ7 => vv = none ∧ Gg E 5 M_X8_days 42 [some (.inr 83), some (.inl x1), some (.inl (x2 + 1))] [] μ7 Q))) : Gg E 5 M_X8_days 42 [some (.inr 83), some (.inl x1), some (.inl x2)] [] μ Q := by
  refine r_iloadn (q := 43) DM_X8_days_42 rfl rfl ?_
  refine r_iloadn (q := 44) DM_X8_days_43 rfl rfl ?_
  have i1 := h.1
  replace h := h.2
  have i2 := h.1
  replace h := h.2
  refine r_icge (q := 47) (t := 66) DM_X8_days_44 rfl (by decide) ⟨⟨i1, i2⟩, fun cc => ?_, fun cc => ?_⟩
  · replace h := h.1 cc
    refine r_aloadn (q := 67) DM_X8_days_66 rfl rfl ?_
    refine r_getR (q := 70) (r := 89) DM_X8_days_67 rfl fRX8_25 sh_83 rfl ?_
    refine r_iconst (q := 71) (n := 0) DM_X8_days_70 rfl ?_
    refine r_callSi [.inr 89, .inl 0] (q := 74) DM_X8_days_71 rfl kM_X8_manySo lRX8_193 rfl (by decide) (Nat.le_of_ble_eq_true rfl) rfl (Cl.imp h (fun vv μ3 h => ?_))
    obtain ⟨v4, hv, h⟩ := h
    refine ⟨v4, hv, ?_⟩
    exact r_ret (v := some (.inl v4)) ⟨DM_X8_days_74, Or.inl rfl⟩ h
  · replace h := h.2 cc
    refine r_aloadn (q := 48) DM_X8_days_47 rfl rfl ?_
    have i5 := h.1
    replace h := h.2
    refine r_callVv [] (q := 51) DM_X8_days_48 rfl kM_X8_notes lRX8_204 sh_83 rfl rfl (by decide) (Nat.le_of_ble_eq_true rfl) rfl (k_X8_notes i5 (fun μ6 e6 => ⟨rfl, ?_⟩))
    replace h := h μ6 e6
    refine r_aloadn (q := 52) DM_X8_days_51 rfl rfl ?_
    refine r_aloadn (q := 53) DM_X8_days_52 rfl rfl ?_
    refine r_getR (q := 56) (r := 89) DM_X8_days_53 rfl fRX8_25 sh_83 rfl ?_
    refine r_iconst (q := 57) (n := 0) DM_X8_days_56 rfl ?_
    refine r_callVv [.inr 89, .inl 0] (q := 60) DM_X8_days_57 rfl kM_X8_passes lRX8_207 sh_83 rfl rfl (by decide) (Nat.le_of_ble_eq_true rfl) rfl (Cl.imp h (fun vv μ7 h => ?_))
    obtain ⟨hv, h⟩ := h
    refine ⟨hv, ?_⟩
    refine v_iinc (q := 63) (ls' := [some (.inr 83), some (.inl x1), some (.inl (x2 + 1))]) DM_X8_days_60 rfl rfl (by decide) rfl ?_
    refine r_goto (q := 42) DM_X8_days_63 (by decide) ?_
    exact h
set_option maxRecDepth 20000 in
theorem s_X8_forge {E : Ex} {μ : Mem} {Q : Option Vl → Mem → Prop} {x1 x2 x3 : Int}  (ix1 : inR x1) (ix2 : inR x2) (ix3 : inR x3) (h : Cl E 2 M_X8_isPlaceOf [.inr 83, .inl x1, .inl x2] μ (fun vv μ1 => ∃ v2, vv = some (.inl (bi v2)) ∧ (v2 = false → Q (some (.inl (-1000001))) μ1) ∧ (v2 = true → ((0 ≤ x3 ∧ x3 ≤ 7) → (0 ≤ 13 + 13 * x1 + (4 + x2) ∧ 13 + 13 * x1 + (4 + x2) < 91) ∧ (0 ≤ 13 + 13 * x1 + 0 ∧ 13 + 13 * x1 + 0 < 91) ∧ inR (μ1 89 (13 + 13 * x1 + 0)) ∧ ((μ1 89 (13 + 13 * x1 + 0)) ≠ 3 → Q (some (.inl (-1000002))) μ1) ∧ ((μ1 89 (13 + 13 * x1 + 0)) = 3 → Cl E 1 M_X8_waits [.inr 89, .inl x1] μ1 (fun vv μ6 => ∃ v7, vv = some (.inl (bi v7)) ∧ (v7 = false → Q (some (.inl (-1000002))) μ6) ∧ (v7 = true → inR (μ1 89 (13 + 13 * x1 + (4 + x2))) ∧ ((μ1 89 (13 + 13 * x1 + (4 + x2))) ≠ x3 → (0 ≤ μ6 83 17 ∧ μ6 83 17 ≤ 24) ∧ ∀ μ10 : Mem, ntR μ6 μ10 → (0 ≤ (((13 + (13 * x1)) + 4) + x2) ∧ (((13 + (13 * x1)) + 4) + x2) < 91) ∧ ∀ μ11 : Mem, μ11 = up μ10 89 (((13 + (13 * x1)) + 4) + x2) x3 → Q (some (.inl (μ1 89 (13 + 13 * x1 + (4 + x2))))) μ11) ∧ ((μ1 89 (13 + 13 * x1 + (4 + x2))) = x3 → Q (some (.inl (-1000002))) μ6))))) ∧ (¬ (0 ≤ x3 ∧ x3 ≤ 7) → Q (some (.inl (-1000001))) μ1)))) : Cl E 3 M_X8_forge [.inr 83, .inl x1, .inl x2, .inl x3] μ Q := by
  show Gg E 3 M_X8_forge 0 [some (.inr 83), some (.inl x1), some (.inl x2), some (.inl x3), none] [] μ Q
  refine r_aloadn (q := 1) DM_X8_forge_0 rfl rfl ?_
  refine r_iloadn (q := 2) DM_X8_forge_1 rfl rfl ?_
  refine r_iloadn (q := 3) DM_X8_forge_2 rfl rfl ?_
  refine r_callVi [.inl x1, .inl x2] (q := 6) DM_X8_forge_3 rfl kM_X8_isPlaceOf lRX8_213 sh_83 rfl rfl (by decide) (Nat.le_of_ble_eq_true rfl) rfl (Cl.imp h (fun vv μ1 h => ?_))
  obtain ⟨v2, hv, h⟩ := h
  refine ⟨_, hv, ?_⟩
  refine r_bbeq (q := 9) (t := 19) DM_X8_forge_6 rfl (by decide) ⟨fun cc => ?_, fun cc => ?_⟩
  · replace h := h.1 cc
    refine r_ldc (q := 21) (n := (-1000001)) DM_X8_forge_19 rfl nRX8_73 ?_
    exact r_ret (v := some (.inl (-1000001))) ⟨DM_X8_forge_21, Or.inl rfl⟩ h
  · replace h := h.2 cc
    refine r_iloadn (q := 10) DM_X8_forge_9 rfl rfl ?_
    refine r_iconst (q := 11) (n := 0) DM_X8_forge_10 rfl ?_
    refine r_bipush (q := 13) (n := 7) DM_X8_forge_11 rfl (by decide) ?_
    refine r_callSi [.inl x3, .inl 0, .inl 7] (q := 16) DM_X8_forge_13 rfl kM_X8_in lRX8_65 rfl (by decide) (Nat.le_of_ble_eq_true rfl) rfl (k_X8_in ix3 (by decide) (by decide) ⟨_, rfl, ?_⟩)
    refine r_bine (q := 19) (t := 22) DM_X8_forge_16 rfl (by decide) ⟨fun cc => ?_, fun cc => ?_⟩
    · replace h := h.1 cc
      refine r_aloadn (q := 23) DM_X8_forge_22 rfl rfl ?_
      refine r_getR (q := 26) (r := 89) DM_X8_forge_23 rfl fRX8_25 sh_83 rfl ?_
      refine r_iloadn (q := 27) DM_X8_forge_26 rfl rfl ?_
      refine r_iconst (q := 28) (n := 4) DM_X8_forge_27 rfl ?_
      refine r_iloadn (q := 29) DM_X8_forge_28 rfl rfl ?_
      refine r_iadd (q := 30) DM_X8_forge_29 rfl ?_
      have i3 := h.1
      replace h := h.2
      refine r_callSi [.inr 89, .inl x1, .inl (4 + x2)] (q := 33) DM_X8_forge_30 rfl kM_X8_of lRX8_158 rfl (by decide) (Nat.le_of_ble_eq_true rfl) rfl (k_X8_of sh_89 i3 ⟨_, rfl, ?_⟩)
      refine v_istore (q := 35) (ls' := [some (.inr 83), some (.inl x1), some (.inl x2), some (.inl x3), some (.inl (μ1 89 (13 + 13 * x1 + (4 + x2))))]) DM_X8_forge_33 rfl (by decide) rfl ?_
      refine r_aloadn (q := 36) DM_X8_forge_35 rfl rfl ?_
      refine r_getR (q := 39) (r := 89) DM_X8_forge_36 rfl fRX8_25 sh_83 rfl ?_
      refine r_iloadn (q := 40) DM_X8_forge_39 rfl rfl ?_
      refine r_iconst (q := 41) (n := 0) DM_X8_forge_40 rfl ?_
      have i4 := h.1
      replace h := h.2
      refine r_callSi [.inr 89, .inl x1, .inl 0] (q := 44) DM_X8_forge_41 rfl kM_X8_of lRX8_158 rfl (by decide) (Nat.le_of_ble_eq_true rfl) rfl (k_X8_of sh_89 i4 ⟨_, rfl, ?_⟩)
      refine r_iconst (q := 45) (n := 3) DM_X8_forge_44 rfl ?_
      have i5 := h.1
      replace h := h.2
      refine r_icne (q := 48) (t := 65) DM_X8_forge_45 rfl (by decide) ⟨⟨i5, (by decide)⟩, fun cc => ?_, fun cc => ?_⟩
      · replace h := h.1 cc
        refine r_ldc (q := 67) (n := (-1000002)) DM_X8_forge_65 rfl nRX8_203 ?_
        exact r_ret (v := some (.inl (-1000002))) ⟨DM_X8_forge_67, Or.inl rfl⟩ h
      · replace h := h.2 cc
        refine r_aloadn (q := 49) DM_X8_forge_48 rfl rfl ?_
        refine r_getR (q := 52) (r := 89) DM_X8_forge_49 rfl fRX8_25 sh_83 rfl ?_
        refine r_iloadn (q := 53) DM_X8_forge_52 rfl rfl ?_
        refine r_callSi [.inr 89, .inl x1] (q := 56) DM_X8_forge_53 rfl kM_X8_waits lRX8_172 rfl (by decide) (Nat.le_of_ble_eq_true rfl) rfl (Cl.imp h (fun vv μ6 h => ?_))
        obtain ⟨v7, hv, h⟩ := h
        refine ⟨_, hv, ?_⟩
        refine r_bbeq (q := 59) (t := 65) DM_X8_forge_56 rfl (by decide) ⟨fun cc => ?_, fun cc => ?_⟩
        · replace h := h.1 cc
          refine r_ldc (q := 67) (n := (-1000002)) DM_X8_forge_65 rfl nRX8_203 ?_
          exact r_ret (v := some (.inl (-1000002))) ⟨DM_X8_forge_67, Or.inl rfl⟩ h
        · replace h := h.2 cc
          refine r_iload (q := 61) DM_X8_forge_59 rfl rfl ?_
          refine r_iloadn (q := 62) DM_X8_forge_61 rfl rfl ?_
          have i8 := h.1
          replace h := h.2
          refine r_icne (q := 65) (t := 68) DM_X8_forge_62 rfl (by decide) ⟨⟨i8, ix3⟩, fun cc => ?_, fun cc => ?_⟩
          · replace h := h.1 cc
            refine r_aloadn (q := 69) DM_X8_forge_68 rfl rfl ?_
            have i9 := h.1
            replace h := h.2
            refine r_callVv [] (q := 72) DM_X8_forge_69 rfl kM_X8_notes lRX8_204 sh_83 rfl rfl (by decide) (Nat.le_of_ble_eq_true rfl) rfl (k_X8_notes i9 (fun μ10 e10 => ⟨rfl, ?_⟩))
            replace h := h μ10 e10
            refine r_aloadn (q := 73) DM_X8_forge_72 rfl rfl ?_
            refine r_getR (q := 76) (r := 89) DM_X8_forge_73 rfl fRX8_25 sh_83 rfl ?_
            refine r_bipush (q := 78) (n := 13) DM_X8_forge_76 rfl (by decide) ?_
            refine r_bipush (q := 80) (n := 13) DM_X8_forge_78 rfl (by decide) ?_
            refine r_iloadn (q := 81) DM_X8_forge_80 rfl rfl ?_
            refine r_imul (q := 82) DM_X8_forge_81 rfl ?_
            refine r_iadd (q := 83) DM_X8_forge_82 rfl ?_
            refine r_iconst (q := 84) (n := 4) DM_X8_forge_83 rfl ?_
            refine r_iadd (q := 85) DM_X8_forge_84 rfl ?_
            refine r_iloadn (q := 86) DM_X8_forge_85 rfl rfl ?_
            refine r_iadd (q := 87) DM_X8_forge_86 rfl ?_
            refine r_iloadn (q := 88) DM_X8_forge_87 rfl rfl ?_
            refine v_iast (q := 89) DM_X8_forge_88 rfl sh_89 (by decide) ⟨h.1, fun μ11 e11 => ?_⟩
            have i12 := h.1
            replace h := h.2 μ11 e11
            refine r_iload (q := 91) DM_X8_forge_89 rfl rfl ?_
            exact r_ret (v := some (.inl (μ1 89 (13 + 13 * x1 + (4 + x2))))) ⟨DM_X8_forge_91, Or.inl rfl⟩ h
          · replace h := h.2 cc
            refine r_ldc (q := 67) (n := (-1000002)) DM_X8_forge_65 rfl nRX8_203 ?_
            exact r_ret (v := some (.inl (-1000002))) ⟨DM_X8_forge_67, Or.inl rfl⟩ h
    · replace h := h.2 cc
      refine r_ldc (q := 21) (n := (-1000001)) DM_X8_forge_19 rfl nRX8_73 ?_
      exact r_ret (v := some (.inl (-1000001))) ⟨DM_X8_forge_21, Or.inl rfl⟩ h
set_option maxRecDepth 20000 in
theorem s_X8_lose {E : Ex} {μ : Mem} {Q : Option Vl → Mem → Prop} {x1 x2 : Int}  (ix1 : inR x1) (ix2 : inR x2) (h : inR (μ 89 0) ∧ ((0 < μ 89 0) → (¬ (0 ≤ x1 ∧ x1 ≤ 7) → Q (some (.inl (-1000001))) μ) ∧ ((0 ≤ x1 ∧ x1 ≤ 7) → ((0 ≤ x2 ∧ x2 ≤ 1) → inR (jand (jshr (μ 89 4) x1) 1) ∧ ((jand (jshr (μ 89 4) x1) 1) ≠ x2 → (0 ≤ μ 83 17 ∧ μ 83 17 ≤ 24) ∧ ∀ μ4 : Mem, ntR μ μ4 → ∀ μ5 : Mem, μ5 = up μ4 89 4 (jxor (μ4 89 4) (jshl 1 x1)) → Q (some (.inl 1)) μ5) ∧ ((jand (jshr (μ 89 4) x1) 1) = x2 → Q (some (.inl (-1000002))) μ)) ∧ (¬ (0 ≤ x2 ∧ x2 ≤ 1) → Q (some (.inl (-1000001))) μ))) ∧ (¬ (0 < μ 89 0) → Q (some (.inl (-1000002))) μ)) : Cl E 2 M_X8_lose [.inr 83, .inl x1, .inl x2] μ Q := by
  show Gg E 2 M_X8_lose 0 [some (.inr 83), some (.inl x1), some (.inl x2)] [] μ Q
  refine r_aloadn (q := 1) DM_X8_lose_0 rfl rfl ?_
  have i1 := h.1
  replace h := h.2
  refine r_callVi [] (q := 4) DM_X8_lose_1 rfl kM_X8_isCourt lRX8_200 sh_83 rfl rfl (by decide) (Nat.le_of_ble_eq_true rfl) rfl (k_X8_isCourt i1 ⟨_, rfl, ?_⟩)
  refine r_bine (q := 7) (t := 10) DM_X8_lose_4 rfl (by decide) ⟨fun cc => ?_, fun cc => ?_⟩
  · replace h := h.1 cc
    refine r_iloadn (q := 11) DM_X8_lose_10 rfl rfl ?_
    refine r_iconst (q := 12) (n := 0) DM_X8_lose_11 rfl ?_
    refine r_bipush (q := 14) (n := 7) DM_X8_lose_12 rfl (by decide) ?_
    refine r_callSi [.inl x1, .inl 0, .inl 7] (q := 17) DM_X8_lose_14 rfl kM_X8_in lRX8_65 rfl (by decide) (Nat.le_of_ble_eq_true rfl) rfl (k_X8_in ix1 (by decide) (by decide) ⟨_, rfl, ?_⟩)
    refine r_bieq (q := 20) (t := 29) DM_X8_lose_17 rfl (by decide) ⟨fun cc => ?_, fun cc => ?_⟩
    · replace h := h.1 cc
      refine r_ldc (q := 31) (n := (-1000001)) DM_X8_lose_29 rfl nRX8_73 ?_
      exact r_ret (v := some (.inl (-1000001))) ⟨DM_X8_lose_31, Or.inl rfl⟩ h
    · replace h := h.2 cc
      refine r_iloadn (q := 21) DM_X8_lose_20 rfl rfl ?_
      refine r_iconst (q := 22) (n := 0) DM_X8_lose_21 rfl ?_
      refine r_iconst (q := 23) (n := 1) DM_X8_lose_22 rfl ?_
      refine r_callSi [.inl x2, .inl 0, .inl 1] (q := 26) DM_X8_lose_23 rfl kM_X8_in lRX8_65 rfl (by decide) (Nat.le_of_ble_eq_true rfl) rfl (k_X8_in ix2 (by decide) (by decide) ⟨_, rfl, ?_⟩)
      refine r_bine (q := 29) (t := 32) DM_X8_lose_26 rfl (by decide) ⟨fun cc => ?_, fun cc => ?_⟩
      · replace h := h.1 cc
        refine r_aloadn (q := 33) DM_X8_lose_32 rfl rfl ?_
        refine r_getR (q := 36) (r := 89) DM_X8_lose_33 rfl fRX8_25 sh_83 rfl ?_
        refine r_iconst (q := 37) (n := 4) DM_X8_lose_36 rfl ?_
        refine r_iald (q := 38) DM_X8_lose_37 rfl sh_89 (by decide) ⟨by decide, ?_⟩
        refine r_iloadn (q := 39) DM_X8_lose_38 rfl rfl ?_
        refine r_ishr (q := 40) DM_X8_lose_39 rfl ?_
        refine r_iconst (q := 41) (n := 1) DM_X8_lose_40 rfl ?_
        refine r_iand (q := 42) DM_X8_lose_41 rfl ?_
        refine r_iloadn (q := 43) DM_X8_lose_42 rfl rfl ?_
        have i2 := h.1
        replace h := h.2
        refine r_icne (q := 46) (t := 49) DM_X8_lose_43 rfl (by decide) ⟨⟨i2, ix2⟩, fun cc => ?_, fun cc => ?_⟩
        · replace h := h.1 cc
          refine r_aloadn (q := 50) DM_X8_lose_49 rfl rfl ?_
          have i3 := h.1
          replace h := h.2
          refine r_callVv [] (q := 53) DM_X8_lose_50 rfl kM_X8_notes lRX8_204 sh_83 rfl rfl (by decide) (Nat.le_of_ble_eq_true rfl) rfl (k_X8_notes i3 (fun μ4 e4 => ⟨rfl, ?_⟩))
          replace h := h μ4 e4
          refine r_aloadn (q := 54) DM_X8_lose_53 rfl rfl ?_
          refine r_getR (q := 57) (r := 89) DM_X8_lose_54 rfl fRX8_25 sh_83 rfl ?_
          refine r_iconst (q := 58) (n := 4) DM_X8_lose_57 rfl ?_
          refine r_dup2 (q := 59) DM_X8_lose_58 rfl ?_
          refine r_iald (q := 60) DM_X8_lose_59 rfl sh_89 (by decide) ⟨by decide, ?_⟩
          refine r_iconst (q := 61) (n := 1) DM_X8_lose_60 rfl ?_
          refine r_iloadn (q := 62) DM_X8_lose_61 rfl rfl ?_
          refine r_ishl (q := 63) DM_X8_lose_62 rfl ?_
          refine r_ixor (q := 64) DM_X8_lose_63 rfl ?_
          refine v_iast (q := 65) DM_X8_lose_64 rfl sh_89 (by decide) ⟨by decide, fun μ5 e5 => ?_⟩
          replace h := h μ5 e5
          refine r_iconst (q := 66) (n := 1) DM_X8_lose_65 rfl ?_
          exact r_ret (v := some (.inl 1)) ⟨DM_X8_lose_66, Or.inl rfl⟩ h
        · replace h := h.2 cc
          refine r_ldc (q := 48) (n := (-1000002)) DM_X8_lose_46 rfl nRX8_203 ?_
          exact r_ret (v := some (.inl (-1000002))) ⟨DM_X8_lose_48, Or.inl rfl⟩ h
      · replace h := h.2 cc
        refine r_ldc (q := 31) (n := (-1000001)) DM_X8_lose_29 rfl nRX8_73 ?_
        exact r_ret (v := some (.inl (-1000001))) ⟨DM_X8_lose_31, Or.inl rfl⟩ h
  · replace h := h.2 cc
    refine r_ldc (q := 9) (n := (-1000002)) DM_X8_lose_7 rfl nRX8_203 ?_
    exact r_ret (v := some (.inl (-1000002))) ⟨DM_X8_lose_9, Or.inl rfl⟩ h
set_option maxRecDepth 20000 in
theorem s_X8_undo {E : Ex} {μ : Mem} {Q : Option Vl → Mem → Prop}  (h : inR (μ 83 17) ∧ ((μ 83 17) ≠ 0 → ∀ μ2 : Mem, μ2 = up μ 83 17 ((μ 83 17) - 1) → Cl E 0 M_X8_copies [.inr 92, .inl (91 * (μ2 83 17)), .inr 89, .inl 0] μ2 (fun vv μ3 => vv = none ∧ Q (some (.inl (μ3 83 17))) μ3)) ∧ ((μ 83 17) = 0 → Q (some (.inl (-1000002))) μ)) : Cl E 1 M_X8_undo [.inr 83] μ Q := by
  show Gg E 1 M_X8_undo 0 [some (.inr 83)] [] μ Q
  refine r_aloadn (q := 1) DM_X8_undo_0 rfl rfl ?_
  refine v_getI (q := 4) (ji := 17) DM_X8_undo_1 rfl fRX8_155 sh_83 rfl rfl ?_
  have i1 := h.1
  replace h := h.2
  refine r_ifne (q := 7) (t := 10) DM_X8_undo_4 rfl (by decide) ⟨i1, fun cc => ?_, fun cc => ?_⟩
  · replace h := h.1 cc
    refine r_aloadn (q := 11) DM_X8_undo_10 rfl rfl ?_
    refine r_dup (q := 12) DM_X8_undo_11 rfl ?_
    refine v_getI (q := 15) (ji := 17) DM_X8_undo_12 rfl fRX8_155 sh_83 rfl rfl ?_
    refine r_iconst (q := 16) (n := 1) DM_X8_undo_15 rfl ?_
    refine r_isub (q := 17) DM_X8_undo_16 rfl ?_
    refine v_put (q := 20) (ji := 17) DM_X8_undo_17 rfl pfRX8_155 sh_83 rfl rfl (Or.inl rfl) (fun μ2 e2 => ?_)
    replace h := h μ2 e2
    refine r_aloadn (q := 21) DM_X8_undo_20 rfl rfl ?_
    refine r_getR (q := 24) (r := 92) DM_X8_undo_21 rfl fRX8_34 sh_83 rfl ?_
    refine r_bipush (q := 26) (n := 91) DM_X8_undo_24 rfl (by decide) ?_
    refine r_aloadn (q := 27) DM_X8_undo_26 rfl rfl ?_
    refine v_getI (q := 30) (ji := 17) DM_X8_undo_27 rfl fRX8_155 sh_83 rfl rfl ?_
    refine r_imul (q := 31) DM_X8_undo_30 rfl ?_
    refine r_aloadn (q := 32) DM_X8_undo_31 rfl rfl ?_
    refine r_getR (q := 35) (r := 89) DM_X8_undo_32 rfl fRX8_25 sh_83 rfl ?_
    refine r_iconst (q := 36) (n := 0) DM_X8_undo_35 rfl ?_
    refine r_callSv [.inr 92, .inl (91 * (μ2 83 17)), .inr 89, .inl 0] (q := 39) DM_X8_undo_36 rfl kM_X8_copies lRX8_151 rfl (by decide) (Nat.le_of_ble_eq_true rfl) rfl (Cl.imp h (fun vv μ3 h => ?_))
    obtain ⟨hv, h⟩ := h
    refine ⟨hv, ?_⟩
    refine r_aloadn (q := 40) DM_X8_undo_39 rfl rfl ?_
    refine v_getI (q := 43) (ji := 17) DM_X8_undo_40 rfl fRX8_155 sh_83 rfl rfl ?_
    exact r_ret (v := some (.inl (μ3 83 17))) ⟨DM_X8_undo_43, Or.inl rfl⟩ h
  · replace h := h.2 cc
    refine r_ldc (q := 9) (n := (-1000002)) DM_X8_undo_7 rfl nRX8_203 ?_
    exact r_ret (v := some (.inl (-1000002))) ⟨DM_X8_undo_9, Or.inl rfl⟩ h
set_option maxRecDepth 20000 in
theorem s_X8_image {E : Ex} {μ : Mem} {Q : Option Vl → Mem → Prop} {x1 : Int}  (ix1 : inR x1) (h : ((0 ≤ x1 ∧ x1 ≤ 1) → inR (μ 89 0) ∧ ((0 < μ 89 0) → Cl E 0 M_X8_copies [.inr 89, .inl 0, .inr 93, .inl (91 * x1)] μ (fun vv μ2 => vv = none ∧ (0 ≤ x1 ∧ x1 < 2) ∧ ∀ μ4 : Mem, μ4 = up μ2 94 x1 1 → Q (some (.inl 1)) μ4)) ∧ (¬ (0 < μ 89 0) → Q (some (.inl (-1000002))) μ)) ∧ (¬ (0 ≤ x1 ∧ x1 ≤ 1) → Q (some (.inl (-1000001))) μ)) : Cl E 1 M_X8_image [.inr 83, .inl x1] μ Q := by
  show Gg E 1 M_X8_image 0 [some (.inr 83), some (.inl x1)] [] μ Q
  refine r_iloadn (q := 1) DM_X8_image_0 rfl rfl ?_
  refine r_iconst (q := 2) (n := 0) DM_X8_image_1 rfl ?_
  refine r_iconst (q := 3) (n := 1) DM_X8_image_2 rfl ?_
  refine r_callSi [.inl x1, .inl 0, .inl 1] (q := 6) DM_X8_image_3 rfl kM_X8_in lRX8_65 rfl (by decide) (Nat.le_of_ble_eq_true rfl) rfl (k_X8_in ix1 (by decide) (by decide) ⟨_, rfl, ?_⟩)
  refine r_bine (q := 9) (t := 12) DM_X8_image_6 rfl (by decide) ⟨fun cc => ?_, fun cc => ?_⟩
  · replace h := h.1 cc
    refine r_aloadn (q := 13) DM_X8_image_12 rfl rfl ?_
    have i1 := h.1
    replace h := h.2
    refine r_callVi [] (q := 16) DM_X8_image_13 rfl kM_X8_isCourt lRX8_200 sh_83 rfl rfl (by decide) (Nat.le_of_ble_eq_true rfl) rfl (k_X8_isCourt i1 ⟨_, rfl, ?_⟩)
    refine r_bine (q := 19) (t := 22) DM_X8_image_16 rfl (by decide) ⟨fun cc => ?_, fun cc => ?_⟩
    · replace h := h.1 cc
      refine r_aloadn (q := 23) DM_X8_image_22 rfl rfl ?_
      refine r_getR (q := 26) (r := 89) DM_X8_image_23 rfl fRX8_25 sh_83 rfl ?_
      refine r_iconst (q := 27) (n := 0) DM_X8_image_26 rfl ?_
      refine r_aloadn (q := 28) DM_X8_image_27 rfl rfl ?_
      refine r_getR (q := 31) (r := 93) DM_X8_image_28 rfl fRX8_37 sh_83 rfl ?_
      refine r_bipush (q := 33) (n := 91) DM_X8_image_31 rfl (by decide) ?_
      refine r_iloadn (q := 34) DM_X8_image_33 rfl rfl ?_
      refine r_imul (q := 35) DM_X8_image_34 rfl ?_
      refine r_callSv [.inr 89, .inl 0, .inr 93, .inl (91 * x1)] (q := 38) DM_X8_image_35 rfl kM_X8_copies lRX8_151 rfl (by decide) (Nat.le_of_ble_eq_true rfl) rfl (Cl.imp h (fun vv μ2 h => ?_))
      obtain ⟨hv, h⟩ := h
      refine ⟨hv, ?_⟩
      refine r_aloadn (q := 39) DM_X8_image_38 rfl rfl ?_
      refine r_getR (q := 42) (r := 94) DM_X8_image_39 rfl fRX8_40 sh_83 rfl ?_
      refine r_iloadn (q := 43) DM_X8_image_42 rfl rfl ?_
      refine r_iconst (q := 44) (n := 1) DM_X8_image_43 rfl ?_
      refine v_zast (q := 45) DM_X8_image_44 rfl sh_94 (by decide) (Or.inr rfl) ⟨h.1, fun μ4 e4 => ?_⟩
      have i5 := h.1
      replace h := h.2 μ4 e4
      refine r_iconst (q := 46) (n := 1) DM_X8_image_45 rfl ?_
      exact r_ret (v := some (.inl 1)) ⟨DM_X8_image_46, Or.inl rfl⟩ h
    · replace h := h.2 cc
      refine r_ldc (q := 21) (n := (-1000002)) DM_X8_image_19 rfl nRX8_203 ?_
      exact r_ret (v := some (.inl (-1000002))) ⟨DM_X8_image_21, Or.inl rfl⟩ h
  · replace h := h.2 cc
    refine r_ldc (q := 11) (n := (-1000001)) DM_X8_image_9 rfl nRX8_73 ?_
    exact r_ret (v := some (.inl (-1000001))) ⟨DM_X8_image_11, Or.inl rfl⟩ h
set_option maxRecDepth 20000 in
theorem s_X8_restore {E : Ex} {μ : Mem} {Q : Option Vl → Mem → Prop} {x1 : Int}  (ix1 : inR x1) (h : ((0 ≤ x1 ∧ x1 ≤ 1) → (0 ≤ x1 ∧ x1 < 2) ∧ inR (μ 94 x1) ∧ ((μ 94 x1) ≠ 0 → Cl E 0 M_X8_copies [.inr 93, .inl (91 * x1), .inr 89, .inl 0] μ (fun vv μ3 => vv = none ∧ ∀ μ5 : Mem, μ5 = up μ3 83 17 0 → Q (some (.inl 1)) μ5)) ∧ ((μ 94 x1) = 0 → Q (some (.inl (-1000002))) μ)) ∧ (¬ (0 ≤ x1 ∧ x1 ≤ 1) → Q (some (.inl (-1000001))) μ)) : Cl E 1 M_X8_restore [.inr 83, .inl x1] μ Q := by
  show Gg E 1 M_X8_restore 0 [some (.inr 83), some (.inl x1)] [] μ Q
  refine r_iloadn (q := 1) DM_X8_restore_0 rfl rfl ?_
  refine r_iconst (q := 2) (n := 0) DM_X8_restore_1 rfl ?_
  refine r_iconst (q := 3) (n := 1) DM_X8_restore_2 rfl ?_
  refine r_callSi [.inl x1, .inl 0, .inl 1] (q := 6) DM_X8_restore_3 rfl kM_X8_in lRX8_65 rfl (by decide) (Nat.le_of_ble_eq_true rfl) rfl (k_X8_in ix1 (by decide) (by decide) ⟨_, rfl, ?_⟩)
  refine r_bine (q := 9) (t := 12) DM_X8_restore_6 rfl (by decide) ⟨fun cc => ?_, fun cc => ?_⟩
  · replace h := h.1 cc
    refine r_aloadn (q := 13) DM_X8_restore_12 rfl rfl ?_
    refine r_getR (q := 16) (r := 94) DM_X8_restore_13 rfl fRX8_40 sh_83 rfl ?_
    refine r_iloadn (q := 17) DM_X8_restore_16 rfl rfl ?_
    refine r_zald (q := 18) DM_X8_restore_17 rfl sh_94 (by decide) ⟨h.1, ?_⟩
    have i1 := h.1
    replace h := h.2
    have i2 := h.1
    replace h := h.2
    refine r_ifne (q := 21) (t := 24) DM_X8_restore_18 rfl (by decide) ⟨i2, fun cc => ?_, fun cc => ?_⟩
    · replace h := h.1 cc
      refine r_aloadn (q := 25) DM_X8_restore_24 rfl rfl ?_
      refine r_getR (q := 28) (r := 93) DM_X8_restore_25 rfl fRX8_37 sh_83 rfl ?_
      refine r_bipush (q := 30) (n := 91) DM_X8_restore_28 rfl (by decide) ?_
      refine r_iloadn (q := 31) DM_X8_restore_30 rfl rfl ?_
      refine r_imul (q := 32) DM_X8_restore_31 rfl ?_
      refine r_aloadn (q := 33) DM_X8_restore_32 rfl rfl ?_
      refine r_getR (q := 36) (r := 89) DM_X8_restore_33 rfl fRX8_25 sh_83 rfl ?_
      refine r_iconst (q := 37) (n := 0) DM_X8_restore_36 rfl ?_
      refine r_callSv [.inr 93, .inl (91 * x1), .inr 89, .inl 0] (q := 40) DM_X8_restore_37 rfl kM_X8_copies lRX8_151 rfl (by decide) (Nat.le_of_ble_eq_true rfl) rfl (Cl.imp h (fun vv μ3 h => ?_))
      obtain ⟨hv, h⟩ := h
      refine ⟨hv, ?_⟩
      refine r_aloadn (q := 41) DM_X8_restore_40 rfl rfl ?_
      refine r_iconst (q := 42) (n := 0) DM_X8_restore_41 rfl ?_
      refine v_put (q := 45) (ji := 17) DM_X8_restore_42 rfl pfRX8_155 sh_83 rfl rfl (Or.inl rfl) (fun μ5 e5 => ?_)
      replace h := h μ5 e5
      refine r_iconst (q := 46) (n := 1) DM_X8_restore_45 rfl ?_
      exact r_ret (v := some (.inl 1)) ⟨DM_X8_restore_46, Or.inl rfl⟩ h
    · replace h := h.2 cc
      refine r_ldc (q := 23) (n := (-1000002)) DM_X8_restore_21 rfl nRX8_203 ?_
      exact r_ret (v := some (.inl (-1000002))) ⟨DM_X8_restore_23, Or.inl rfl⟩ h
  · replace h := h.2 cc
    refine r_ldc (q := 11) (n := (-1000001)) DM_X8_restore_9 rfl nRX8_73 ?_
    exact r_ret (v := some (.inl (-1000001))) ⟨DM_X8_restore_11, Or.inl rfl⟩ h
set_option maxRecDepth 20000 in
theorem s_X7_days {E : Ex} {μ : Mem} {Q : Option Vl → Mem → Prop} {x1 : Int}  (ix1 : inR x1) (h : inR (μ 4 0) ∧ ((μ 4 0) ≠ 0 → (x1 < 1 → Q (some (.inl (-1000001))) μ) ∧ (¬ x1 < 1 → (x1 ≤ 20 → inR ((μ 4 4) + x1) ∧ (((μ 4 4) + x1) ≤ 999 → (RgC μ 4) ∧ (RoOk E) ∧ (VC (cv μ 4)) ∧ (0 ≤ ((μ 4 4) + x1) ∧ ((μ 4 4) + x1) ≤ 900000) ∧ ∀ μ7 : Mem, chC μ μ7 4 (cSeats (cv μ 4) ((μ 4 4) + x1) 0) → ∀ μ8 : Mem, μ8 = up μ7 4 4 ((μ7 4 4) + x1) → Gg E 5 M_X7_days 77 [some (.inr 0), some (.inl x1), some (.inl 0)] [] μ8 Q) ∧ (¬ ((μ 4 4) + x1) ≤ 999 → Q (some (.inl (-1000003))) μ)) ∧ (¬ x1 ≤ 20 → Q (some (.inl (-1000001))) μ))) ∧ ((μ 4 0) = 0 → Q (some (.inl (-1000002))) μ)) : Cl E 5 M_X7_days [.inr 0, .inl x1] μ Q := by
  show Gg E 5 M_X7_days 0 [some (.inr 0), some (.inl x1), none] [] μ Q
  refine r_aloadn (q := 1) DM_X7_days_0 rfl rfl ?_
  refine r_getR (q := 4) (r := 4) DM_X7_days_1 rfl fRX7_25 sh_0 rfl ?_
  refine v_getI (q := 7) (ji := 0) DM_X7_days_4 rfl fRX7_140 (co0 cK_4) rfl rfl ?_
  have i1 := h.1
  replace h := h.2
  refine r_ifne (q := 10) (t := 13) DM_X7_days_7 rfl (by decide) ⟨i1, fun cc => ?_, fun cc => ?_⟩
  · replace h := h.1 cc
    refine r_iloadn (q := 14) DM_X7_days_13 rfl rfl ?_
    refine r_iconst (q := 15) (n := 1) DM_X7_days_14 rfl ?_
    refine r_iclt (q := 18) (t := 24) DM_X7_days_15 rfl (by decide) ⟨⟨ix1, (by decide)⟩, fun cc => ?_, fun cc => ?_⟩
    · replace h := h.1 cc
      refine r_ldc (q := 26) (n := (-1000001)) DM_X7_days_24 rfl nRX7_69 ?_
      exact r_ret (v := some (.inl (-1000001))) ⟨DM_X7_days_26, Or.inl rfl⟩ h
    · replace h := h.2 cc
      refine r_iloadn (q := 19) DM_X7_days_18 rfl rfl ?_
      refine r_bipush (q := 21) (n := 20) DM_X7_days_19 rfl (by decide) ?_
      refine r_icle (q := 24) (t := 27) DM_X7_days_21 rfl (by decide) ⟨⟨ix1, (by decide)⟩, fun cc => ?_, fun cc => ?_⟩
      · replace h := h.1 cc
        refine r_aloadn (q := 28) DM_X7_days_27 rfl rfl ?_
        refine r_getR (q := 31) (r := 4) DM_X7_days_28 rfl fRX7_25 sh_0 rfl ?_
        refine v_getI (q := 34) (ji := 4) DM_X7_days_31 rfl fRX7_145 (co0 cK_4) rfl rfl ?_
        refine r_iloadn (q := 35) DM_X7_days_34 rfl rfl ?_
        refine r_iadd (q := 36) DM_X7_days_35 rfl ?_
        refine r_sipush (q := 39) (n := 999) DM_X7_days_36 rfl (by decide) ?_
        have i2 := h.1
        replace h := h.2
        refine r_icle (q := 42) (t := 45) DM_X7_days_39 rfl (by decide) ⟨⟨i2, (by decide)⟩, fun cc => ?_, fun cc => ?_⟩
        · replace h := h.1 cc
          refine r_aloadn (q := 46) DM_X7_days_45 rfl rfl ?_
          refine r_getR (q := 49) (r := 4) DM_X7_days_46 rfl fRX7_25 sh_0 rfl ?_
          refine r_aloadn (q := 50) DM_X7_days_49 rfl rfl ?_
          refine r_getR (q := 53) (r := 4) DM_X7_days_50 rfl fRX7_25 sh_0 rfl ?_
          refine v_getI (q := 56) (ji := 4) DM_X7_days_53 rfl fRX7_145 (co0 cK_4) rfl rfl ?_
          refine r_iloadn (q := 57) DM_X7_days_56 rfl rfl ?_
          refine r_iadd (q := 58) DM_X7_days_57 rfl ?_
          refine r_iconst (q := 59) (n := 0) DM_X7_days_58 rfl ?_
          have i3 := h.1
          replace h := h.2
          have i4 := h.1
          replace h := h.2
          have i5 := h.1
          replace h := h.2
          have i6 := h.1
          replace h := h.2
          refine r_callVv [.inl ((μ 4 4) + x1), .inl 0] (q := 62) DM_X7_days_59 rfl kM_X2_seatTill lRX7_148 (co0 cK_4) rfl rfl (by decide) (Nat.le_of_ble_eq_true rfl) rfl (k_X2_seatTill cK_4 i3 i4 i5 i6 (fun μ7 e7 => ⟨rfl, ?_⟩))
          replace h := h μ7 e7
          refine r_aloadn (q := 63) DM_X7_days_62 rfl rfl ?_
          refine r_getR (q := 66) (r := 4) DM_X7_days_63 rfl fRX7_25 sh_0 rfl ?_
          refine r_dup (q := 67) DM_X7_days_66 rfl ?_
          refine v_getI (q := 70) (ji := 4) DM_X7_days_67 rfl fRX7_145 (co0 cK_4) rfl rfl ?_
          refine r_iloadn (q := 71) DM_X7_days_70 rfl rfl ?_
          refine r_iadd (q := 72) DM_X7_days_71 rfl ?_
          refine v_put (q := 75) (ji := 4) DM_X7_days_72 rfl pfRX7_145 (co0 cK_4) rfl rfl (Or.inl rfl) (fun μ8 e8 => ?_)
          replace h := h μ8 e8
          refine r_iconst (q := 76) (n := 0) DM_X7_days_75 rfl ?_
          refine v_istoren (q := 77) (ls' := [some (.inr 0), some (.inl x1), some (.inl 0)]) DM_X7_days_76 rfl (by decide) rfl ?_
          exact h
        · replace h := h.2 cc
          refine r_ldc (q := 44) (n := (-1000003)) DM_X7_days_42 rfl nRX7_111 ?_
          exact r_ret (v := some (.inl (-1000003))) ⟨DM_X7_days_44, Or.inl rfl⟩ h
      · replace h := h.2 cc
        refine r_ldc (q := 26) (n := (-1000001)) DM_X7_days_24 rfl nRX7_69 ?_
        exact r_ret (v := some (.inl (-1000001))) ⟨DM_X7_days_26, Or.inl rfl⟩ h
  · replace h := h.2 cc
    refine r_ldc (q := 12) (n := (-1000002)) DM_X7_days_10 rfl nRX7_144 ?_
    exact r_ret (v := some (.inl (-1000002))) ⟨DM_X7_days_12, Or.inl rfl⟩ h
set_option maxRecDepth 20000 in
theorem s_X7_days_77 {E : Ex} {μ : Mem} {Q : Option Vl → Mem → Prop} {x1 x2 : Int}  (h : inR x2 ∧ inR x1 ∧ (x2 ≥ x1 → (RgC μ 4) ∧ (0 ≤ μ 4 1 ∧ μ 4 1 ≤ 6) ∧ Q (some (.inl (cntI (fun p => decide (cState (cv μ 4) p (μ 4 4) = 0)) (μ 4 1)))) μ) ∧ (¬ x2 ≥ x1 → (0 ≤ μ 25 4 ∧ μ 25 4 < 24) ∧ (0 ≤ μ 25 5 ∧ μ 25 5 ≤ 24) ∧ ∀ μ7 : Mem, kpA μ μ7 (0, 0, 0, 0) → Gg E 5 M_X7_days 77 [some (.inr 0), some (.inl x1), some (.inl (x2 + 1))] [] μ7 Q)) : Gg E 5 M_X7_days 77 [some (.inr 0), some (.inl x1), some (.inl x2)] [] μ Q := by
  refine r_iloadn (q := 78) DM_X7_days_77 rfl rfl ?_
  refine r_iloadn (q := 79) DM_X7_days_78 rfl rfl ?_
  have i1 := h.1
  replace h := h.2
  have i2 := h.1
  replace h := h.2
  refine r_icge (q := 82) (t := 95) DM_X7_days_79 rfl (by decide) ⟨⟨i1, i2⟩, fun cc => ?_, fun cc => ?_⟩
  · replace h := h.1 cc
    refine r_aloadn (q := 96) DM_X7_days_95 rfl rfl ?_
    refine r_getR (q := 99) (r := 4) DM_X7_days_96 rfl fRX7_25 sh_0 rfl ?_
    refine r_iconst (q := 100) (n := 0) DM_X7_days_99 rfl ?_
    have i3 := h.1
    replace h := h.2
    have i4 := h.1
    replace h := h.2
    refine r_callVi [.inl 0] (q := 103) DM_X7_days_100 rfl kM_X2_howMany lRX7_154 (co0 cK_4) rfl rfl (by decide) (Nat.le_of_ble_eq_true rfl) rfl (k_X2_howMany cK_4 i3 i4 (by decide) ⟨_, rfl, ?_⟩)
    exact r_ret (v := some (.inl (cntI (fun p => decide (cState (cv μ 4) p (μ 4 4) = 0)) (μ 4 1)))) ⟨DM_X7_days_103, Or.inl rfl⟩ h
  · replace h := h.2 cc
    refine r_aloadn (q := 83) DM_X7_days_82 rfl rfl ?_
    refine r_getR (q := 86) (r := 25) DM_X7_days_83 rfl fRX7_39 sh_0 rfl ?_
    have i5 := h.1
    replace h := h.2
    have i6 := h.1
    replace h := h.2
    refine r_callVv [] (q := 89) DM_X7_days_86 rfl kM_X0_keepDay lRX7_151 sh_25 rfl rfl (by decide) (Nat.le_of_ble_eq_true rfl) rfl (k_X0_keepDay i5 i6 (fun μ7 e7 => ⟨rfl, ?_⟩))
    replace h := h μ7 e7
    refine v_iinc (q := 92) (ls' := [some (.inr 0), some (.inl x1), some (.inl (x2 + 1))]) DM_X7_days_89 rfl rfl (by decide) rfl ?_
    refine r_goto (q := 77) DM_X7_days_92 (by decide) ?_
    exact h
set_option maxRecDepth 20000 in
theorem s_X7_forge {E : Ex} {μ : Mem} {Q : Option Vl → Mem → Prop} {x1 x2 x3 : Int}  (ix1 : inR x1) (ix2 : inR x2) (ix3 : inR x3) (h : Cl E 2 M_X7_isPlaceOfName [.inr 0, .inl x1, .inl x2] μ (fun vv μ1 => ∃ v2, vv = some (.inl (bi v2)) ∧ (v2 = false → Q (some (.inl (-1000001))) μ1) ∧ (v2 = true → ((0 ≤ x3 ∧ x3 < 8) → (0 ≤ x1 * 4 + x2 ∧ x1 * 4 + x2 < 24) ∧ (0 ≤ x1 ∧ x1 < 6) ∧ inR (μ1 (4 + 3) x1) ∧ ((μ1 (4 + 3) x1) ≠ 3 → Q (some (.inl (-1000002))) μ1) ∧ ((μ1 (4 + 3) x1) = 3 → (RgC μ1 4) ∧ inR (μ1 4 4) ∧ ((cWait (cv μ1 4) x1 (μ1 4 4)) = false → Q (some (.inl (-1000002))) μ1) ∧ ((cWait (cv μ1 4) x1 (μ1 4 4)) = true → inR (μ1 (4 + 5) (x1 * 4 + x2)) ∧ ((μ1 (4 + 5) (x1 * 4 + x2)) ≠ x3 → ∀ μ9 : Mem, μ9 = up μ1 (4 + 5) (x1 * 4 + x2) x3 → (0 ≤ μ9 25 4 ∧ μ9 25 4 < 24) ∧ (0 ≤ μ9 25 5 ∧ μ9 25 5 ≤ 24) ∧ ∀ μ12 : Mem, kpA μ9 μ12 (1, x1, x2, (μ1 (4 + 5) (x1 * 4 + x2))) → Q (some (.inl (μ1 (4 + 5) (x1 * 4 + x2)))) μ12) ∧ ((μ1 (4 + 5) (x1 * 4 + x2)) = x3 → Q (some (.inl (-1000002))) μ1)))) ∧ (¬ (0 ≤ x3 ∧ x3 < 8) → Q (some (.inl (-1000001))) μ1)))) : Cl E 3 M_X7_forge [.inr 0, .inl x1, .inl x2, .inl x3] μ Q := by
  show Gg E 3 M_X7_forge 0 [some (.inr 0), some (.inl x1), some (.inl x2), some (.inl x3), none] [] μ Q
  refine r_aloadn (q := 1) DM_X7_forge_0 rfl rfl ?_
  refine r_iloadn (q := 2) DM_X7_forge_1 rfl rfl ?_
  refine r_iloadn (q := 3) DM_X7_forge_2 rfl rfl ?_
  refine r_callVi [.inl x1, .inl x2] (q := 6) DM_X7_forge_3 rfl kM_X7_isPlaceOfName lRX7_157 sh_0 rfl rfl (by decide) (Nat.le_of_ble_eq_true rfl) rfl (Cl.imp h (fun vv μ1 h => ?_))
  obtain ⟨v2, hv, h⟩ := h
  refine ⟨_, hv, ?_⟩
  refine r_bbeq (q := 9) (t := 18) DM_X7_forge_6 rfl (by decide) ⟨fun cc => ?_, fun cc => ?_⟩
  · replace h := h.1 cc
    refine r_ldc (q := 20) (n := (-1000001)) DM_X7_forge_18 rfl nRX7_69 ?_
    exact r_ret (v := some (.inl (-1000001))) ⟨DM_X7_forge_20, Or.inl rfl⟩ h
  · replace h := h.2 cc
    refine r_iloadn (q := 10) DM_X7_forge_9 rfl rfl ?_
    refine r_bipush (q := 12) (n := 8) DM_X7_forge_10 rfl (by decide) ?_
    refine r_callSi [.inl x3, .inl 8] (q := 15) DM_X7_forge_12 rfl kM_X7_isIn lRX7_65 rfl (by decide) (Nat.le_of_ble_eq_true rfl) rfl (k_X7_isIn ix3 (by decide) ⟨_, rfl, ?_⟩)
    refine r_bine (q := 18) (t := 21) DM_X7_forge_15 rfl (by decide) ⟨fun cc => ?_, fun cc => ?_⟩
    · replace h := h.1 cc
      refine r_aloadn (q := 22) DM_X7_forge_21 rfl rfl ?_
      refine r_getR (q := 25) (r := 4) DM_X7_forge_22 rfl fRX7_25 sh_0 rfl ?_
      refine r_iloadn (q := 26) DM_X7_forge_25 rfl rfl ?_
      refine r_iloadn (q := 27) DM_X7_forge_26 rfl rfl ?_
      have i3 := h.1
      replace h := h.2
      refine r_callVi [.inl x1, .inl x2] (q := 30) DM_X7_forge_27 rfl kM_X2_letterOf lRX7_160 (co0 cK_4) rfl rfl (by decide) (Nat.le_of_ble_eq_true rfl) rfl (k_X2_letterOf cK_4 i3 ⟨_, rfl, ?_⟩)
      refine v_istore (q := 32) (ls' := [some (.inr 0), some (.inl x1), some (.inl x2), some (.inl x3), some (.inl (μ1 (4 + 5) (x1 * 4 + x2)))]) DM_X7_forge_30 rfl (by decide) rfl ?_
      refine r_aloadn (q := 33) DM_X7_forge_32 rfl rfl ?_
      refine r_getR (q := 36) (r := 4) DM_X7_forge_33 rfl fRX7_25 sh_0 rfl ?_
      refine r_getR (q := 39) (r := 4 + 3) DM_X7_forge_36 rfl fRX7_164 (co0 cK_4) rfl ?_
      refine r_iloadn (q := 40) DM_X7_forge_39 rfl rfl ?_
      refine r_iald (q := 41) DM_X7_forge_40 rfl (co3 cK_4) (by decide) ⟨h.1, ?_⟩
      have i4 := h.1
      replace h := h.2
      refine r_iconst (q := 42) (n := 3) DM_X7_forge_41 rfl ?_
      have i5 := h.1
      replace h := h.2
      refine r_icne (q := 45) (t := 69) DM_X7_forge_42 rfl (by decide) ⟨⟨i5, (by decide)⟩, fun cc => ?_, fun cc => ?_⟩
      · replace h := h.1 cc
        refine r_ldc (q := 71) (n := (-1000002)) DM_X7_forge_69 rfl nRX7_144 ?_
        exact r_ret (v := some (.inl (-1000002))) ⟨DM_X7_forge_71, Or.inl rfl⟩ h
      · replace h := h.2 cc
        refine r_aloadn (q := 46) DM_X7_forge_45 rfl rfl ?_
        refine r_getR (q := 49) (r := 4) DM_X7_forge_46 rfl fRX7_25 sh_0 rfl ?_
        refine r_iloadn (q := 50) DM_X7_forge_49 rfl rfl ?_
        refine r_aloadn (q := 51) DM_X7_forge_50 rfl rfl ?_
        refine r_getR (q := 54) (r := 4) DM_X7_forge_51 rfl fRX7_25 sh_0 rfl ?_
        refine v_getI (q := 57) (ji := 4) DM_X7_forge_54 rfl fRX7_145 (co0 cK_4) rfl rfl ?_
        have i6 := h.1
        replace h := h.2
        have i7 := h.1
        replace h := h.2
        refine r_callVi [.inl x1, .inl (μ1 4 4)] (q := 60) DM_X7_forge_57 rfl kM_X2_waitsOn lRX7_167 (co0 cK_4) rfl rfl (by decide) (Nat.le_of_ble_eq_true rfl) rfl (k_X2_waitsOn cK_4 i6 i4 i7 ⟨_, rfl, ?_⟩)
        refine r_bbeq (q := 63) (t := 69) DM_X7_forge_60 rfl (by decide) ⟨fun cc => ?_, fun cc => ?_⟩
        · replace h := h.1 cc
          refine r_ldc (q := 71) (n := (-1000002)) DM_X7_forge_69 rfl nRX7_144 ?_
          exact r_ret (v := some (.inl (-1000002))) ⟨DM_X7_forge_71, Or.inl rfl⟩ h
        · replace h := h.2 cc
          refine r_iload (q := 65) DM_X7_forge_63 rfl rfl ?_
          refine r_iloadn (q := 66) DM_X7_forge_65 rfl rfl ?_
          have i8 := h.1
          replace h := h.2
          refine r_icne (q := 69) (t := 72) DM_X7_forge_66 rfl (by decide) ⟨⟨i8, ix3⟩, fun cc => ?_, fun cc => ?_⟩
          · replace h := h.1 cc
            refine r_aloadn (q := 73) DM_X7_forge_72 rfl rfl ?_
            refine r_getR (q := 76) (r := 4) DM_X7_forge_73 rfl fRX7_25 sh_0 rfl ?_
            refine r_iloadn (q := 77) DM_X7_forge_76 rfl rfl ?_
            refine r_iloadn (q := 78) DM_X7_forge_77 rfl rfl ?_
            refine r_iloadn (q := 79) DM_X7_forge_78 rfl rfl ?_
            refine r_callVv [.inl x1, .inl x2, .inl x3] (q := 82) DM_X7_forge_79 rfl kM_X2_putLetter lRX7_170 (co0 cK_4) rfl rfl (by decide) (Nat.le_of_ble_eq_true rfl) rfl (k_X2_putLetter cK_4 i3 (fun μ9 e9 => ⟨rfl, ?_⟩))
            replace h := h μ9 e9
            refine r_aloadn (q := 83) DM_X7_forge_82 rfl rfl ?_
            refine r_getR (q := 86) (r := 25) DM_X7_forge_83 rfl fRX7_39 sh_0 rfl ?_
            refine r_iloadn (q := 87) DM_X7_forge_86 rfl rfl ?_
            refine r_iloadn (q := 88) DM_X7_forge_87 rfl rfl ?_
            refine r_iload (q := 90) DM_X7_forge_88 rfl rfl ?_
            have i10 := h.1
            replace h := h.2
            have i11 := h.1
            replace h := h.2
            refine r_callVv [.inl x1, .inl x2, .inl (μ1 (4 + 5) (x1 * 4 + x2))] (q := 93) DM_X7_forge_90 rfl kM_X0_keepForged lRX7_174 sh_25 rfl rfl (by decide) (Nat.le_of_ble_eq_true rfl) rfl (k_X0_keepForged i10 i11 (fun μ12 e12 => ⟨rfl, ?_⟩))
            replace h := h μ12 e12
            refine r_iload (q := 95) DM_X7_forge_93 rfl rfl ?_
            exact r_ret (v := some (.inl (μ1 (4 + 5) (x1 * 4 + x2)))) ⟨DM_X7_forge_95, Or.inl rfl⟩ h
          · replace h := h.2 cc
            refine r_ldc (q := 71) (n := (-1000002)) DM_X7_forge_69 rfl nRX7_144 ?_
            exact r_ret (v := some (.inl (-1000002))) ⟨DM_X7_forge_71, Or.inl rfl⟩ h
    · replace h := h.2 cc
      refine r_ldc (q := 20) (n := (-1000001)) DM_X7_forge_18 rfl nRX7_69 ?_
      exact r_ret (v := some (.inl (-1000001))) ⟨DM_X7_forge_20, Or.inl rfl⟩ h
set_option maxRecDepth 20000 in
theorem s_X7_lose {E : Ex} {μ : Mem} {Q : Option Vl → Mem → Prop} {x1 x2 : Int}  (ix1 : inR x1) (ix2 : inR x2) (h : inR (μ 4 0) ∧ ((μ 4 0) ≠ 0 → (¬ (0 ≤ x1 ∧ x1 < 8) → Q (some (.inl (-1000001))) μ) ∧ ((0 ≤ x1 ∧ x1 < 8) → ((0 ≤ x2 ∧ x2 < 2) → inR (jand (jshr (μ 4 5) x1) 1) ∧ ((jand (jshr (μ 4 5) x1) 1) ≠ x2 → ∀ μ3 : Mem, μ3 = up μ 4 5 (jxor (μ 4 5) (jshl 1 x1)) → (0 ≤ μ3 25 4 ∧ μ3 25 4 < 24) ∧ (0 ≤ μ3 25 5 ∧ μ3 25 5 ≤ 24) ∧ ∀ μ6 : Mem, kpA μ3 μ6 (2, 0, 0, x1) → Q (some (.inl 1)) μ6) ∧ ((jand (jshr (μ 4 5) x1) 1) = x2 → Q (some (.inl (-1000002))) μ)) ∧ (¬ (0 ≤ x2 ∧ x2 < 2) → Q (some (.inl (-1000001))) μ))) ∧ ((μ 4 0) = 0 → Q (some (.inl (-1000002))) μ)) : Cl E 3 M_X7_lose [.inr 0, .inl x1, .inl x2] μ Q := by
  show Gg E 3 M_X7_lose 0 [some (.inr 0), some (.inl x1), some (.inl x2)] [] μ Q
  refine r_aloadn (q := 1) DM_X7_lose_0 rfl rfl ?_
  refine r_getR (q := 4) (r := 4) DM_X7_lose_1 rfl fRX7_25 sh_0 rfl ?_
  refine v_getI (q := 7) (ji := 0) DM_X7_lose_4 rfl fRX7_140 (co0 cK_4) rfl rfl ?_
  have i1 := h.1
  replace h := h.2
  refine r_ifne (q := 10) (t := 13) DM_X7_lose_7 rfl (by decide) ⟨i1, fun cc => ?_, fun cc => ?_⟩
  · replace h := h.1 cc
    refine r_iloadn (q := 14) DM_X7_lose_13 rfl rfl ?_
    refine r_bipush (q := 16) (n := 8) DM_X7_lose_14 rfl (by decide) ?_
    refine r_callSi [.inl x1, .inl 8] (q := 19) DM_X7_lose_16 rfl kM_X7_isIn lRX7_65 rfl (by decide) (Nat.le_of_ble_eq_true rfl) rfl (k_X7_isIn ix1 (by decide) ⟨_, rfl, ?_⟩)
    refine r_bieq (q := 22) (t := 30) DM_X7_lose_19 rfl (by decide) ⟨fun cc => ?_, fun cc => ?_⟩
    · replace h := h.1 cc
      refine r_ldc (q := 32) (n := (-1000001)) DM_X7_lose_30 rfl nRX7_69 ?_
      exact r_ret (v := some (.inl (-1000001))) ⟨DM_X7_lose_32, Or.inl rfl⟩ h
    · replace h := h.2 cc
      refine r_iloadn (q := 23) DM_X7_lose_22 rfl rfl ?_
      refine r_iconst (q := 24) (n := 2) DM_X7_lose_23 rfl ?_
      refine r_callSi [.inl x2, .inl 2] (q := 27) DM_X7_lose_24 rfl kM_X7_isIn lRX7_65 rfl (by decide) (Nat.le_of_ble_eq_true rfl) rfl (k_X7_isIn ix2 (by decide) ⟨_, rfl, ?_⟩)
      refine r_bine (q := 30) (t := 33) DM_X7_lose_27 rfl (by decide) ⟨fun cc => ?_, fun cc => ?_⟩
      · replace h := h.1 cc
        refine r_aloadn (q := 34) DM_X7_lose_33 rfl rfl ?_
        refine r_getR (q := 37) (r := 4) DM_X7_lose_34 rfl fRX7_25 sh_0 rfl ?_
        refine v_getI (q := 40) (ji := 5) DM_X7_lose_37 rfl fRX7_177 (co0 cK_4) rfl rfl ?_
        refine r_iloadn (q := 41) DM_X7_lose_40 rfl rfl ?_
        refine r_ishr (q := 42) DM_X7_lose_41 rfl ?_
        refine r_iconst (q := 43) (n := 1) DM_X7_lose_42 rfl ?_
        refine r_iand (q := 44) DM_X7_lose_43 rfl ?_
        refine r_iloadn (q := 45) DM_X7_lose_44 rfl rfl ?_
        have i2 := h.1
        replace h := h.2
        refine r_icne (q := 48) (t := 51) DM_X7_lose_45 rfl (by decide) ⟨⟨i2, ix2⟩, fun cc => ?_, fun cc => ?_⟩
        · replace h := h.1 cc
          refine r_aloadn (q := 52) DM_X7_lose_51 rfl rfl ?_
          refine r_getR (q := 55) (r := 4) DM_X7_lose_52 rfl fRX7_25 sh_0 rfl ?_
          refine r_dup (q := 56) DM_X7_lose_55 rfl ?_
          refine v_getI (q := 59) (ji := 5) DM_X7_lose_56 rfl fRX7_177 (co0 cK_4) rfl rfl ?_
          refine r_iconst (q := 60) (n := 1) DM_X7_lose_59 rfl ?_
          refine r_iloadn (q := 61) DM_X7_lose_60 rfl rfl ?_
          refine r_ishl (q := 62) DM_X7_lose_61 rfl ?_
          refine r_ixor (q := 63) DM_X7_lose_62 rfl ?_
          refine v_put (q := 66) (ji := 5) DM_X7_lose_63 rfl pfRX7_177 (co0 cK_4) rfl rfl (Or.inl rfl) (fun μ3 e3 => ?_)
          replace h := h μ3 e3
          refine r_aloadn (q := 67) DM_X7_lose_66 rfl rfl ?_
          refine r_getR (q := 70) (r := 25) DM_X7_lose_67 rfl fRX7_39 sh_0 rfl ?_
          refine r_iloadn (q := 71) DM_X7_lose_70 rfl rfl ?_
          have i4 := h.1
          replace h := h.2
          have i5 := h.1
          replace h := h.2
          refine r_callVv [.inl x1] (q := 74) DM_X7_lose_71 rfl kM_X0_keepLost lRX7_180 sh_25 rfl rfl (by decide) (Nat.le_of_ble_eq_true rfl) rfl (k_X0_keepLost i4 i5 (fun μ6 e6 => ⟨rfl, ?_⟩))
          replace h := h μ6 e6
          refine r_iconst (q := 75) (n := 1) DM_X7_lose_74 rfl ?_
          exact r_ret (v := some (.inl 1)) ⟨DM_X7_lose_75, Or.inl rfl⟩ h
        · replace h := h.2 cc
          refine r_ldc (q := 50) (n := (-1000002)) DM_X7_lose_48 rfl nRX7_144 ?_
          exact r_ret (v := some (.inl (-1000002))) ⟨DM_X7_lose_50, Or.inl rfl⟩ h
      · replace h := h.2 cc
        refine r_ldc (q := 32) (n := (-1000001)) DM_X7_lose_30 rfl nRX7_69 ?_
        exact r_ret (v := some (.inl (-1000001))) ⟨DM_X7_lose_32, Or.inl rfl⟩ h
  · replace h := h.2 cc
    refine r_ldc (q := 12) (n := (-1000002)) DM_X7_lose_10 rfl nRX7_144 ?_
    exact r_ret (v := some (.inl (-1000002))) ⟨DM_X7_lose_12, Or.inl rfl⟩ h
set_option maxRecDepth 20000 in
theorem s_X7_undo {E : Ex} {μ : Mem} {Q : Option Vl → Mem → Prop}  (h : inR (μ 25 5) ∧ ((μ 25 5) ≠ 0 → (0 ≤ μ 25 4 ∧ μ 25 4 < 24) ∧ (1 ≤ μ 25 5 ∧ μ 25 5 ≤ 24) ∧ (RgC μ 4) ∧ (0 ≤ μ 4 1 ∧ μ 4 1 ≤ 6) ∧ ((aAct μ (μ 25 5 - 1)).1 = 0 ∨ (aAct μ (μ 25 5 - 1)).1 = 1 ∧ 0 ≤ (aAct μ (μ 25 5 - 1)).2.1 * 4 + (aAct μ (μ 25 5 - 1)).2.2.1 ∧ (aAct μ (μ 25 5 - 1)).2.1 * 4 + (aAct μ (μ 25 5 - 1)).2.2.1 < 24 ∨ (aAct μ (μ 25 5 - 1)).1 = 2) ∧ ∀ μ7 : Mem, bkA μ μ7 → Q (some (.inl (μ7 25 5))) μ7) ∧ ((μ 25 5) = 0 → Q (some (.inl (-1000002))) μ)) : Cl E 2 M_X7_undo [.inr 0] μ Q := by
  show Gg E 2 M_X7_undo 0 [some (.inr 0)] [] μ Q
  refine r_aloadn (q := 1) DM_X7_undo_0 rfl rfl ?_
  refine r_getR (q := 4) (r := 25) DM_X7_undo_1 rfl fRX7_39 sh_0 rfl ?_
  refine v_getI (q := 7) (ji := 5) DM_X7_undo_4 rfl fRX7_183 sh_25 rfl rfl ?_
  have i1 := h.1
  replace h := h.2
  refine r_ifne (q := 10) (t := 13) DM_X7_undo_7 rfl (by decide) ⟨i1, fun cc => ?_, fun cc => ?_⟩
  · replace h := h.1 cc
    refine r_aloadn (q := 14) DM_X7_undo_13 rfl rfl ?_
    refine r_getR (q := 17) (r := 25) DM_X7_undo_14 rfl fRX7_39 sh_0 rfl ?_
    refine r_aloadn (q := 18) DM_X7_undo_17 rfl rfl ?_
    refine r_getR (q := 21) (r := 4) DM_X7_undo_18 rfl fRX7_25 sh_0 rfl ?_
    have i2 := h.1
    replace h := h.2
    have i3 := h.1
    replace h := h.2
    have i4 := h.1
    replace h := h.2
    have i5 := h.1
    replace h := h.2
    have i6 := h.1
    replace h := h.2
    refine r_callVv [.inr 4] (q := 24) DM_X7_undo_21 rfl kM_X0_takeBack lRX7_184 sh_25 rfl rfl (by decide) (Nat.le_of_ble_eq_true rfl) rfl (k_X0_takeBack i2 i3 i4 i5 i6 (fun μ7 e7 => ⟨rfl, ?_⟩))
    replace h := h μ7 e7
    refine r_aloadn (q := 25) DM_X7_undo_24 rfl rfl ?_
    refine r_getR (q := 28) (r := 25) DM_X7_undo_25 rfl fRX7_39 sh_0 rfl ?_
    refine v_getI (q := 31) (ji := 5) DM_X7_undo_28 rfl fRX7_183 sh_25 rfl rfl ?_
    exact r_ret (v := some (.inl (μ7 25 5))) ⟨DM_X7_undo_31, Or.inl rfl⟩ h
  · replace h := h.2 cc
    refine r_ldc (q := 12) (n := (-1000002)) DM_X7_undo_10 rfl nRX7_144 ?_
    exact r_ret (v := some (.inl (-1000002))) ⟨DM_X7_undo_12, Or.inl rfl⟩ h
set_option maxRecDepth 20000 in
theorem s_X7_image {E : Ex} {μ : Mem} {Q : Option Vl → Mem → Prop} {x1 : Int}  (ix1 : inR x1) (h : ((0 ≤ x1 ∧ x1 < 2) → inR (μ 4 0) ∧ ((μ 4 0) ≠ 0 → (0 ≤ x1 ∧ x1 < 2) ∧ (coS (im x1) → ((im x1) + 10 ≤ 4 ∨ 4 + 10 ≤ (im x1)) ∧ (μ 4 0 = 0 ∨ μ 4 0 = 1) ∧ ∀ μ5 : Mem, chC μ μ5 (im x1) (tkC (cv μ (im x1)) (cv μ 4)) → Q (some (.inl 1)) μ5)) ∧ ((μ 4 0) = 0 → Q (some (.inl (-1000002))) μ)) ∧ (¬ (0 ≤ x1 ∧ x1 < 2) → Q (some (.inl (-1000001))) μ)) : Cl E 2 M_X7_image [.inr 0, .inl x1] μ Q := by
  show Gg E 2 M_X7_image 0 [some (.inr 0), some (.inl x1)] [] μ Q
  refine r_iloadn (q := 1) DM_X7_image_0 rfl rfl ?_
  refine r_iconst (q := 2) (n := 2) DM_X7_image_1 rfl ?_
  refine r_callSi [.inl x1, .inl 2] (q := 5) DM_X7_image_2 rfl kM_X7_isIn lRX7_65 rfl (by decide) (Nat.le_of_ble_eq_true rfl) rfl (k_X7_isIn ix1 (by decide) ⟨_, rfl, ?_⟩)
  refine r_bine (q := 8) (t := 11) DM_X7_image_5 rfl (by decide) ⟨fun cc => ?_, fun cc => ?_⟩
  · replace h := h.1 cc
    refine r_aloadn (q := 12) DM_X7_image_11 rfl rfl ?_
    refine r_getR (q := 15) (r := 4) DM_X7_image_12 rfl fRX7_25 sh_0 rfl ?_
    refine v_getI (q := 18) (ji := 0) DM_X7_image_15 rfl fRX7_140 (co0 cK_4) rfl rfl ?_
    have i1 := h.1
    replace h := h.2
    refine r_ifne (q := 21) (t := 24) DM_X7_image_18 rfl (by decide) ⟨i1, fun cc => ?_, fun cc => ?_⟩
    · replace h := h.1 cc
      refine r_aloadn (q := 25) DM_X7_image_24 rfl rfl ?_
      refine r_getR (q := 28) (r := 24) DM_X7_image_25 rfl fRX7_32 sh_0 rfl ?_
      refine r_iloadn (q := 29) DM_X7_image_28 rfl rfl ?_
      refine v_aaI (q := 30) DM_X7_image_29 rfl ⟨h.1, fun w2 => ?_⟩
      replace h := h.2 w2
      refine r_aloadn (q := 31) DM_X7_image_30 rfl rfl ?_
      refine r_getR (q := 34) (r := 4) DM_X7_image_31 rfl fRX7_25 sh_0 rfl ?_
      have i3 := h.1
      replace h := h.2
      have i4 := h.1
      replace h := h.2
      refine r_callVv [.inr 4] (q := 37) DM_X7_image_34 rfl kM_X2_takeFrom lRX7_130 (co0 w2) rfl rfl (by decide) (Nat.le_of_ble_eq_true rfl) rfl (k_X2_takeFrom w2 cK_4 i3 i4 (fun μ5 e5 => ⟨rfl, ?_⟩))
      replace h := h μ5 e5
      refine r_iconst (q := 38) (n := 1) DM_X7_image_37 rfl ?_
      exact r_ret (v := some (.inl 1)) ⟨DM_X7_image_38, Or.inl rfl⟩ h
    · replace h := h.2 cc
      refine r_ldc (q := 23) (n := (-1000002)) DM_X7_image_21 rfl nRX7_144 ?_
      exact r_ret (v := some (.inl (-1000002))) ⟨DM_X7_image_23, Or.inl rfl⟩ h
  · replace h := h.2 cc
    refine r_ldc (q := 10) (n := (-1000001)) DM_X7_image_8 rfl nRX7_69 ?_
    exact r_ret (v := some (.inl (-1000001))) ⟨DM_X7_image_10, Or.inl rfl⟩ h
set_option maxRecDepth 20000 in
theorem s_X7_restore {E : Ex} {μ : Mem} {Q : Option Vl → Mem → Prop} {x1 : Int}  (ix1 : inR x1) (h : ((0 ≤ x1 ∧ x1 < 2) → (0 ≤ x1 ∧ x1 < 2) ∧ (coS (im x1) → inR (μ (im x1) 0) ∧ ((μ (im x1) 0) ≠ 0 → (0 ≤ x1 ∧ x1 < 2) ∧ (coS (im x1) → (4 + 10 ≤ (im x1) ∨ (im x1) + 10 ≤ 4) ∧ (μ (im x1) 0 = 0 ∨ μ (im x1) 0 = 1) ∧ ∀ μ6 : Mem, chC μ μ6 4 (tkC (cv μ 4) (cv μ (im x1))) → ∀ μ7 : Mem, μ7 = up μ6 25 5 0 → Q (some (.inl 1)) μ7)) ∧ ((μ (im x1) 0) = 0 → Q (some (.inl (-1000002))) μ))) ∧ (¬ (0 ≤ x1 ∧ x1 < 2) → Q (some (.inl (-1000001))) μ)) : Cl E 2 M_X7_restore [.inr 0, .inl x1] μ Q := by
  show Gg E 2 M_X7_restore 0 [some (.inr 0), some (.inl x1)] [] μ Q
  refine r_iloadn (q := 1) DM_X7_restore_0 rfl rfl ?_
  refine r_iconst (q := 2) (n := 2) DM_X7_restore_1 rfl ?_
  refine r_callSi [.inl x1, .inl 2] (q := 5) DM_X7_restore_2 rfl kM_X7_isIn lRX7_65 rfl (by decide) (Nat.le_of_ble_eq_true rfl) rfl (k_X7_isIn ix1 (by decide) ⟨_, rfl, ?_⟩)
  refine r_bine (q := 8) (t := 11) DM_X7_restore_5 rfl (by decide) ⟨fun cc => ?_, fun cc => ?_⟩
  · replace h := h.1 cc
    refine r_aloadn (q := 12) DM_X7_restore_11 rfl rfl ?_
    refine r_getR (q := 15) (r := 24) DM_X7_restore_12 rfl fRX7_32 sh_0 rfl ?_
    refine r_iloadn (q := 16) DM_X7_restore_15 rfl rfl ?_
    refine v_aaI (q := 17) DM_X7_restore_16 rfl ⟨h.1, fun w1 => ?_⟩
    replace h := h.2 w1
    refine v_getI (q := 20) (ji := 0) DM_X7_restore_17 rfl fRX7_140 (co0 w1) rfl rfl ?_
    have i2 := h.1
    replace h := h.2
    refine r_ifne (q := 23) (t := 26) DM_X7_restore_20 rfl (by decide) ⟨i2, fun cc => ?_, fun cc => ?_⟩
    · replace h := h.1 cc
      refine r_aloadn (q := 27) DM_X7_restore_26 rfl rfl ?_
      refine r_getR (q := 30) (r := 4) DM_X7_restore_27 rfl fRX7_25 sh_0 rfl ?_
      refine r_aloadn (q := 31) DM_X7_restore_30 rfl rfl ?_
      refine r_getR (q := 34) (r := 24) DM_X7_restore_31 rfl fRX7_32 sh_0 rfl ?_
      refine r_iloadn (q := 35) DM_X7_restore_34 rfl rfl ?_
      refine v_aaI (q := 36) DM_X7_restore_35 rfl ⟨h.1, fun w3 => ?_⟩
      replace h := h.2 w3
      have i4 := h.1
      replace h := h.2
      have i5 := h.1
      replace h := h.2
      refine r_callVv [.inr (im x1)] (q := 39) DM_X7_restore_36 rfl kM_X2_takeFrom lRX7_130 (co0 cK_4) rfl rfl (by decide) (Nat.le_of_ble_eq_true rfl) rfl (k_X2_takeFrom cK_4 w3 i4 i5 (fun μ6 e6 => ⟨rfl, ?_⟩))
      replace h := h μ6 e6
      refine r_aloadn (q := 40) DM_X7_restore_39 rfl rfl ?_
      refine r_getR (q := 43) (r := 25) DM_X7_restore_40 rfl fRX7_39 sh_0 rfl ?_
      refine r_callVv [] (q := 46) DM_X7_restore_43 rfl kM_X0_forgetAll lRX7_134 sh_25 rfl rfl (by decide) (Nat.le_of_ble_eq_true rfl) rfl (k_X0_forgetAll  (fun μ7 e7 => ⟨rfl, ?_⟩))
      replace h := h μ7 e7
      refine r_iconst (q := 47) (n := 1) DM_X7_restore_46 rfl ?_
      exact r_ret (v := some (.inl 1)) ⟨DM_X7_restore_47, Or.inl rfl⟩ h
    · replace h := h.2 cc
      refine r_ldc (q := 25) (n := (-1000002)) DM_X7_restore_23 rfl nRX7_144 ?_
      exact r_ret (v := some (.inl (-1000002))) ⟨DM_X7_restore_25, Or.inl rfl⟩ h
  · replace h := h.2 cc
    refine r_ldc (q := 10) (n := (-1000001)) DM_X7_restore_8 rfl nRX7_69 ?_
    exact r_ret (v := some (.inl (-1000001))) ⟨DM_X7_restore_10, Or.inl rfl⟩ h
section G54
variable {μ μ1 : Mem}
theorem Inv.gen (hI : Inv μ) (h : ∀ k, (k < 4 ∨ k = 24 ∨ k = 30 ∨ (45 ≤ k ∧ k ≤ 82) ∨ (84 ≤ k ∧ k ≤ 88) ∨ k = 93 ∨ k = 94 ∨ k = 95) → μ1 k = μ k) (h83 : ∀ i, i ≠ 17 → i ≠ 23 → μ1 83 i = μ 83 i) (hC : CtOK (cv μ1 4) (μ1 89)) (hg4 : RgC μ1 4) (hg14 : RgC μ1 14) (hg31 : RgC μ1 31) (hg2 : RgA (μ1 92)) (hr : 0 ≤ μ1 25 4 ∧ μ1 25 4 < 24) (hz : 0 ≤ μ1 25 5 ∧ μ1 25 5 ≤ 24) (hs : μ1 83 17 = μ1 25 5) (hA : AL (μ1 25 5) (aAct μ1) (fun j i => μ1 92 (91 * j + i)) (cv μ1 4)) : Inv μ1 := by
  obtain ⟨j1, j2, j3, j4, j5, j6, j7, j8⟩ := hI
  refine ⟨j1.cg (fun k hk => h k (by omega)), j2.cg (by rw [h 2 (by omega)]) (h 3 (by omega)) (h83 6 (by decide) (by decide)) (h 88 (by omega)), j3.cg (by rw [h 0 (by omega)]) (by rw [h 0 (by omega)]) (h83 4 (by decide) (by decide)) (h83 7 (by decide) (by decide)), j4.cg (by rw [h 45 (by omega)]) (h 46 (by omega)) (h83 21 (by decide) (by decide)) (h 95 (by omega)), hC, j6.cg (fun k a b => h k (by omega)) (h 93 (by omega)) (h 94 (by omega)), ⟨hr, hz, hs, hA⟩, hg4, hg14, hg31, j8.2.2.2.1.cg (fun k a b => h k (by omega)), j8.2.2.2.2.1.cg (fun k a b => h k (by omega)), hg2, by rw [h 93 (by omega)]; exact j8.2.2.2.2.2.2⟩
/-- what is foretold changes nothing of this -/
theorem Inv.fore (hI : Inv μ) (h : ∀ k, (k < 14 ∨ (24 ≤ k ∧ k ≤ 30) ∨ (45 ≤ k ∧ k ≤ 82) ∨ (84 ≤ k ∧ k ≤ 90) ∨ (92 ≤ k ∧ k ≤ 95)) → μ1 k = μ k) (h83 : ∀ i, i ≠ 23 → μ1 83 i = μ 83 i) (hg14 : RgC μ1 14) (hg31 : RgC μ1 31) : Inv μ1 := by
  have e4 : eqv (cv μ 4) (cv μ1 4) := cv_eqv (fun k a b => h k (by omega))
  refine hI.gen (fun k hk => h k (by omega)) (fun i a b => h83 i b) ?_ (hI.2.2.2.2.2.2.2.1.cg (fun k a b => h k (by omega))) hg14 hg31 (by rw [h 92 (by omega)]; exact hI.2.2.2.2.2.2.2.2.2.2.2.2.1) ?_ ?_ ?_ ?_
  · rw [h 89 (by omega)]; exact hI.2.2.2.2.1.eqv e4
  · rw [h 25 (by omega)]; exact hI.2.2.2.2.2.2.1.1
  · rw [h 25 (by omega)]; exact hI.2.2.2.2.2.2.1.2.1
  · rw [h83 17 (by decide), h 25 (by omega)]; exact hI.2.2.2.2.2.2.1.2.2.1
  · rw [h 25 (by omega), aAct_cg (fun k a b => h k (by omega)), h 92 (by omega)]
    obtain ⟨w, q1, q2⟩ := hI.2.2.2.2.2.2.1.2.2.2
    exact ⟨w, q1.trans e4, q2⟩
theorem chC_eqv {c : Nat} {v w : CV} (h : chC μ μ1 c v) (hv : eqv v w) : eqv (cv μ1 c) w := by rw [h.1]; exact hv
theorem cv_rng {c : Nat} {v : CV} (h : cv μ1 c = v) (hv : ∀ j i, j < 10 → -2000000 ≤ v j i ∧ v j i ≤ 2000000) : RgC μ1 c := fun j i hj => by
  have := hv j i hj
  rw [← h] at this
  exact this
end G54
def Rgv (v : CV) : Prop := ∀ j i, j < 10 → -2000000 ≤ v j i ∧ v j i ≤ 2000000
theorem Rgv.up {v : CV} {j : Nat} {i x : Int} (h : Rgv v) (hx : -2000000 ≤ x ∧ x ≤ 2000000) : Rgv (upv v j i x) := by
  intro j' i' hj
  unfold upv
  split
  · exact hx
  · exact h j' i' hj
theorem Rgv.till {e b : Int} (he : e ≤ 900000) : ∀ (n : Nat) (v : CV) (f : Int), Rgv v → 0 ≤ f → f ≤ 900001 → (n : Int) ≤ v 0 1 → v 0 1 ≤ 6 → Rgv (cTill e b n v f)
  | 0, v, f, h, _, _, _, _ => h
  | n + 1, v, f, h, h0, h1, h2, h3 => by
    rw [cTill]
    split
    · next hc =>
      have ho := cOpen_rng (v := v) (d := f) (by omega) h0 (by omega)
      have hf := cFirst_can (v := v) (d := cOpen v f) (b := b) (by omega)
      refine Rgv.till he n _ _ (((h.up (by omega)).up (by omega)).up (by omega)) (by omega) (by omega) ?_ ?_
      · rw [upv_i (by decide), upv_ne (by decide), upv_ne (by decide)]; omega
      · rw [upv_i (by decide), upv_ne (by decide), upv_ne (by decide)]; exact h3
    · exact h
theorem Rgv.seats {v : CV} {e b : Int} (h : Rgv v) (he : e ≤ 900000) (hn : 0 ≤ v 0 1 ∧ v 0 1 ≤ 6) (hd : 0 ≤ v 0 4 ∧ v 0 4 ≤ 900000) : Rgv (cSeats v e b) := by
  unfold cSeats
  refine Rgv.till he _ _ _ (h.up (by omega)) (by omega) (by omega) ?_ ?_
  · rw [upv_i (by decide)]; omega
  · rw [upv_i (by decide)]; exact hn.2
theorem Rgv.of {μ : Mem} {c : Nat} (h : RgC μ c) : Rgv (cv μ c) := fun j i hj => h j i hj
theorem Rgv.tk {v w : CV} (h : Rgv v) (k : Rgv w) : Rgv (tkC v w) := fun j i hj => by unfold tkC; split; exact k j i hj; exact h j i hj
theorem CtOK.tOK {v : CV} {a : Int → Int} (h : CtOK v a) : tOK v := by
  obtain ⟨⟨-, hv, -, hs⟩, -, h9⟩ := h
  refine ⟨hv.2.1, fun p p0 p1 => ⟨(hv.2.2.2.2.2 p p0 p1).2.2.1, ?_⟩⟩
  rcases hs p p0 p1 with q | q
  · exact Or.inl q
  · exact Or.inr (by omega)
/-- so many acts of a day are kept one behind another -/
def ChD (n : Nat) (μ μ1 : Mem) : Prop := ∃ m : Nat → Mem, m 0 = μ ∧ m n = μ1 ∧ ∀ i, i < n → kpA (m i) (m (i + 1)) (0, 0, 0, 0)
theorem ChD.snoc {k : Nat} {μ μ' μ9 : Mem} (h : ChD k μ μ') (h9 : kpA μ' μ9 (0, 0, 0, 0)) : ChD (k + 1) μ μ9 := by
  obtain ⟨m, m0, mk, ms⟩ := h
  have a : ∀ i, i ≤ k → (fun i => if i ≤ k then m i else μ9) i = m i := fun i hi => if_pos hi
  have b : (fun i => if i ≤ k then m i else μ9) (k + 1) = μ9 := if_neg (by omega)
  refine ⟨fun i => if i ≤ k then m i else μ9, (a 0 (Nat.zero_le k)).trans m0, b, fun i hi => ?_⟩
  rw [a i (by omega)]
  by_cases hik : i < k
  · rw [a (i + 1) (by omega)]; exact ms i hik
  · have e : i = k := by omega
    subst e
    rw [b, mk]; exact h9
section P54
variable {E : Ex} {μ : Mem} {x1 x2 x3 : Int}
theorem pr_days (hI : Inv μ) (hRo : RoOk E) (i1 : inR x1) : Pair E 5 M_X7_days 5 M_X8_days [.inl x1] μ := by
  have hC := hI.2.2.2.2.1
  have hR := hC.1
  obtain ⟨a0, a1, a2, a3, -⟩ := hR.1
  obtain ⟨v0, v1, v3, v4, v5, vp⟩ := hR.2.1
  have g4 := hI.2.2.2.2.2.2.2.1
  obtain ⟨hr, hz, hs, -⟩ := hI.2.2.2.2.2.2.1
  simp only [cv, Nat.add_zero] at a0 a1 a2 a3 v0 v1 v3 v4
  have bad : ∀ _ : Unit, μ 4 0 = 1 → ¬ (1 ≤ x1 ∧ x1 ≤ 20) → ∃ r, (some (.inl (-1000001)) : Option Vl) = some (.inl r) ∧ inR r ∧ Cl E 5 M_X8_days [.inr 83, .inl x1] μ (fun w μ2 => w = some (.inl r) ∧ Inv μ2) := fun _ h1 hb =>
    ⟨_, rfl, by decide, s_X8_days i1 ⟨by omega, fun _ => ⟨fun z => absurd z hb, fun _ => ⟨rfl, hI⟩⟩, fun z => absurd (show 0 < μ 89 0 by omega) z⟩⟩
  refine s_X7_days i1 ⟨by omega, fun z => ⟨fun z1 => bad () (by omega) (by omega), fun z1 => ⟨fun z2 => ⟨by omega, fun z3 => ?_, fun z3 => ⟨_, rfl, by decide, s_X8_days i1 ⟨by omega, fun _ => ⟨fun _ => ⟨by omega, fun z4 => absurd z4 (by omega), fun _ => ⟨rfl, hI⟩⟩, fun z4 => absurd (by omega) z4⟩, fun z4 => absurd (show 0 < μ 89 0 by omega) z4⟩⟩⟩, fun z2 => bad () (by omega) (by omega)⟩⟩, fun z => ⟨_, rfl, by decide, s_X8_days i1 ⟨by omega, fun z1 => absurd z1 (by omega), fun _ => ⟨rfl, hI⟩⟩⟩⟩
  refine ⟨g4, hRo, hR.2.1, by omega, fun μ7 h7 μ8 e8 => ?_⟩
  obtain ⟨v, ev⟩ : ∃ v, v = cv μ 4 := ⟨_, rfl⟩
  have hst : v 0 0 = 1 := by rw [ev]; show μ 4 0 = 1; omega
  have hd4 : v 0 4 = μ 4 4 := by rw [ev]; rfl
  have hsts : 1 ≤ v 0 2 := by
    rw [ev]
    rcases v0 with q | q
    · omega
    · exact q.2.1.1
  have hCv : CtOK v (μ 89) := by rw [ev]; exact hC
  obtain ⟨n, hn⟩ : ∃ n : Nat, (n : Int) = x1 := ⟨x1.toNat, by omega⟩
  -- what the class makes of the court
  have f44 : μ7 4 4 = μ 4 4 := by
    have := congrFun (congrFun h7.1 0) 4
    have e := (till_eqv (e := μ 4 4 + x1) (b := 0) (cv μ 4 0 1).toNat (upv (cv μ 4) 0 15 0) (cv μ 4) (cv μ 4 0 4 + 1) eqv.rf.up15).1 4 (by decide)
    have hsr := seats_run (v := cv μ 4) (b := 0) (m := n) hC.tOK (by rw [← ev]; exact hsts) v4.1 (by show μ 4 4 + n ≤ _; omega) hC.2.1
    have := hsr.1 4 (by decide)
    rw [runD_0 n _ _ 0 (by decide)] at this
    have h71 := congrFun (congrFun h7.1 0) 4
    rw [← hn] at h71
    exact h71.trans this
  have e8v : eqv (passN 0 n v) (cv μ8 4) := by
    rw [passN_run, e8, cv_up0, h7.1, f44, hd4, ← hn]
    have hsr := seats_run (v := cv μ 4) (b := 0) (m := n) hC.tOK (by rw [← ev]; exact hsts) v4.1 (by show μ 4 4 + n ≤ _; omega) hC.2.1
    rw [← ev] at hsr ⊢
    rw [hd4] at hsr
    exact hsr.symm.up
  have o8 : ∀ k, (k < 4 ∨ 14 ≤ k) → μ8 k = μ k := fun k hk => by rw [e8, up_ne (by omega), h7.2 k (by omega)]
  have g8 : RgC μ8 4 := by
    rw [e8]
    refine RgC.up (j := 0) (cv_rng h7.1 (Rgv.seats (Rgv.of g4) (by omega) v1 ?_)) (by rw [f44]; omega)
    show 0 ≤ μ 4 4 ∧ μ 4 4 ≤ 900000
    omega
  -- the class's loop
  suffices hh : ∀ μ' : Mem, ChD 0 μ8 μ' → Gg E 5 M_X7_days 77 [some (.inr 0), some (.inl x1), some (.inl ((0 : Nat) : Int))] [] μ' (fun v μ1 => ∃ r, v = some (.inl r) ∧ inR r ∧ Cl E 5 M_X8_days [.inr 83, .inl x1] μ1 (fun w μ2 => w = some (.inl r) ∧ Inv μ2)) from hh μ8 ⟨fun _ => μ8, rfl, rfl, fun i hi => absurd hi (by omega)⟩
  have chd : ∀ (k : Nat) (m : Nat → Mem), m 0 = μ8 → (∀ i, i < k → kpA (m i) (m (i + 1)) (0, 0, 0, 0)) → (0 ≤ m k 25 4 ∧ m k 25 4 < 24) ∧ (0 ≤ m k 25 5 ∧ m k 25 5 ≤ 24) ∧ ∀ j, (j < 25 ∨ 30 ≤ j) → m k j = μ8 j := by
    intro k
    induction k with
    | zero =>
      intro m h0 _
      rw [h0, o8 25 (by omega)]
      exact ⟨hr, hz, fun _ _ => rfl⟩
    | succ k ih =>
      intro m h0 hm
      obtain ⟨q1, q2, q3⟩ := ih m h0 (fun i hi => hm i (by omega))
      obtain ⟨p1, p2, p3, -⟩ := hm k (by omega)
      refine ⟨p2, ?_, fun j hj => (p1 j hj).trans (q3 j hj)⟩
      rw [p3]; split <;> omega
  have loop : ∀ (r k : Nat), k + r = n → ∀ μ' : Mem, ChD k μ8 μ' → Gg E 5 M_X7_days 77 [some (.inr 0), some (.inl x1), some (.inl ((k : Nat) : Int))] [] μ' (fun v μ1 => ∃ r, v = some (.inl r) ∧ inR r ∧ Cl E 5 M_X8_days [.inr 83, .inl x1] μ1 (fun w μ2 => w = some (.inl r) ∧ Inv μ2)) := by
    intro r
    induction r with
    | succ r ih =>
      intro k hk μ' hch
      obtain ⟨m, m0, mk, ms⟩ := hch
      obtain ⟨q1, q2, q3⟩ := chd k m m0 ms
      rw [mk] at q1 q2 q3
      refine s_X7_days_77 ⟨by omega, by omega, fun z => absurd z (by omega), fun _ => ⟨q1, q2, fun μ9 h9 => ?_⟩⟩
      have := ih (k + 1) (by omega) μ9 (ChD.snoc ⟨m, m0, mk, ms⟩ h9)
      rwa [show (((k + 1 : Nat)) : Int) = (k : Int) + 1 by omega] at this
    | zero =>
      intro k hk μ' hch
      obtain ⟨m, m0, mk, ms⟩ := hch
      have hkn : k = n := by omega
      subst hkn
      obtain ⟨q1, q2, q3⟩ := chd k m m0 ms
      rw [mk] at q1 q2 q3
      have c9 : eqv (passN 0 k v) (cv μ' 4) := e8v.trans (cv_eqv (fun j a b => q3 j (by omega)))
      have g9 : RgC μ' 4 := g8.cg (fun j a b => q3 j (by omega))
      have n9 : μ' 4 1 = μ 4 1 := by
        have := c9.1 1 (by decide)
        rw [passN_run, upv_i (by decide), runD_0 k _ _ 0 (by decide), ev] at this
        exact this.symm
      refine s_X7_days_77 ⟨by omega, by omega, fun _ => ⟨g9, by omega, _, rfl, ?_, ?_⟩, fun z => absurd (show (k : Int) ≥ x1 by omega) z⟩
      · have := cntI_rng (f := fun p => decide (cState (cv μ' 4) p (μ' 4 4) = 0)) (μ' 4 1) (by omega)
        omega
      -- the reference
      obtain ⟨ans, eans⟩ : ∃ ans, ans = cntI (fun p => decide (cState (cv μ' 4) p (μ' 4 4) = 0)) (μ' 4 1) := ⟨_, rfl⟩
      rw [← eans]
      have f89 : μ' 89 = μ 89 := by rw [q3 89 (by omega), o8 89 (by omega)]
      refine s_X8_days i1 ?_
      rw [f89]
      refine ⟨by omega, fun _ => ⟨fun _ => ⟨by omega, fun _ => ?_, fun z4 => absurd (by omega) z4⟩, fun z4 => absurd (by omega) z4⟩, fun z4 => absurd (show 0 < μ 89 0 by omega) z4⟩
      have vN : ∀ t : Nat, passN 0 (t + 1) v = (passV (passN 0 t v) 0).1 := by
        have key : ∀ (t : Nat) (u : CV), passN 0 (t + 1) u = (passV (passN 0 t u) 0).1 := by
          intro t
          induction t with
          | zero => intro u; rfl
          | succ t ih => intro u; exact ih _
        exact fun t => key t v
      have d0 : ∀ t : Nat, passN 0 t v 0 4 = v 0 4 + t := fun t => by rw [passN_run, upv_self]
      have s0 : ∀ t : Nat, passN 0 t v 0 0 = 1 := fun t => by rw [passN_run, upv_i (by decide), runD_0 t _ _ 0 (by decide)]; exact hst
      suffices hw : ∀ (r t : Nat), t + r = k → ∀ μt : Mem, CtOK (passN 0 t v) (μt 89) → (∀ j, j ≠ 83 → j ≠ 89 → j ≠ 92 → j ≠ 96 → μt j = μ' j) → (∀ i, i ≠ 17 → i ≠ 23 → μt 83 i = μ' 83 i) → μt 83 17 = m t 25 5 → RgA (μt 92) → AL (m t 25 5) (aAct (m t)) (fun j i => μt 92 (91 * j + i)) (passN 0 t v) → Gg E 5 M_X8_days 42 [some (.inr 83), some (.inl x1), some (.inl ((t : Nat) : Int))] [] μt (fun w μ2 => w = some (.inl ans) ∧ Inv μ2) by
        refine hw k 0 (by omega) μ' (by rw [f89]; exact hCv) (fun _ _ _ _ _ => rfl) (fun _ _ _ => rfl) (by rw [m0, o8 25 (by omega), q3 83 (by omega), o8 83 (by omega)]; exact hs) (by rw [q3 92 (by omega), o8 92 (by omega)]; exact hI.2.2.2.2.2.2.2.2.2.2.2.2.1) ?_
        rw [m0, o8 25 (by omega), aAct_cg (fun j a b => o8 j (by omega)), q3 92 (by omega), o8 92 (by omega)]
        show AL _ _ _ v
        rw [ev]; exact hI.2.2.2.2.2.2.1.2.2.2
      intro r
      induction r with
      | succ r ih =>
        intro t ht μt hCt o1 o2 o3 o4 o5
        obtain ⟨t1, t2, t3⟩ := chd t m m0 (fun i hi => ms i (by omega))
        have kp := ms t (by omega)
        have dt := d0 t
        have hbd : v 0 4 + k ≤ 999 := by omega
        refine s_X8_days_42 ⟨by omega, by omega, fun z => absurd z (by omega), fun _ => ?_⟩
        refine ⟨by omega, fun μu hu => ?_⟩
        obtain ⟨u1, u2, u3, u4, u5, u6⟩ := hu
        have fu89 : μu 89 = μt 89 := u1 89 (by decide) (by decide)
        refine k_X8_passes (v := passN 0 t v) sh_89 (by decide) (by rw [fu89]; exact hCt.1) (by decide) (by omega) (s0 t) (fun μw hw => ⟨rfl, ?_⟩)
        obtain ⟨w1, w2, w3, w4, w5⟩ := hw
        have vt := vN t
        have := ih (t + 1) (by omega) μw ?_ ?_ ?_ ?_ ?_ ?_
        · rwa [show (((t + 1 : Nat)) : Int) = (t : Int) + 1 by omega] at this
        · rw [vt]
          refine ⟨w1, sv_pass hCt.1.2.1 hCt.2.1, ?_⟩
          rw [pass_day, dt]; omega
        · intro j j1 j2 j3 j4; rw [w5 j j2 j1 j4, u1 j j1 j3, o1 j j1 j2 j3 j4]
        · intro i i1 i2; rw [w4 i i2, u2 i i1, o2 i i1 i2]
        · rw [w4 17 (by decide), u3, o3, kp.2.2.1]
        · rw [w5 92 (by decide) (by decide) (by decide)]; exact u6 o4 hCt.1.2.2.1
        · rw [vt, w5 92 (by decide) (by decide) (by decide)]
          have hlen : μu 83 17 = m (t + 1) 25 5 := by rw [u3, o3, kp.2.2.1]
          refine o5.push (s := μt 89) t2 hCt (un_day hCt.1.2.2.2 hCt.1.n.1 (by omega)) (Or.inl rfl) kp.2.2.1 kp.2.2.2.1 kp.2.2.2.2 (fun j i j0 j1 i0 i1 => ?_) (fun i i0 i1 => ?_) (fun j i => (u6 o4 hCt.1.2.2.1) _)
          · show μu 92 (91 * j + i) = μt 92 (91 * (if m t 25 5 < 24 then j else j + 1) + i)
            rw [u4 j i j0 (by rw [hlen]; exact j1) i0 i1, o3]
          · show μu 92 (91 * (m (t + 1) 25 5 - 1) + i) = μt 89 i
            rw [← hlen]; exact u5 i i0 i1
      | zero =>
        intro t ht μt hCt o1 o2 o3 o4 o5
        have htk : t = k := by omega
        subst htk
        have cE : eqv (passN 0 t v) (cv μt 4) := c9.trans (cv_eqv (fun j a b => o1 j (by omega) (by omega) (by omega) (by omega)))
        refine s_X8_days_42 ⟨by omega, by omega, fun _ => k_X8_manySo (v := passN 0 t v) sh_89 hCt.1 (by decide) ⟨_, rfl, ?_, ?_⟩, fun z => absurd (show (t : Int) ≥ x1 by omega) z⟩
        · rw [eans, ← c9.state, show μ' 4 4 = passN 0 t v 0 4 from (c9.1 4 (by decide)).symm, show μ' 4 1 = passN 0 t v 0 1 from (c9.1 1 (by decide)).symm]
        · have f25 : ∀ j, 25 ≤ j → j ≤ 29 → μt j = m t j := fun j a b => by rw [o1 j (by omega) (by omega) (by omega) (by omega), mk]
          refine hI.gen (fun j hj => ?_) (fun i a b => ?_) (hCt.eqv cE) (g9.cg (fun j a b => o1 j (by omega) (by omega) (by omega) (by omega))) (hI.2.2.2.2.2.2.2.2.1.cg (fun j a b => ?_)) (hI.2.2.2.2.2.2.2.2.2.1.cg (fun j a b => ?_)) o4 ?_ ?_ ?_ ?_
          · rw [o1 j (by omega) (by omega) (by omega) (by omega), q3 j (by omega), o8 j (by omega)]
          · rw [o2 i a b, q3 83 (by omega), o8 83 (by omega)]
          · rw [o1 j (by omega) (by omega) (by omega) (by omega), q3 j (by omega), o8 j (by omega)]
          · rw [o1 j (by omega) (by omega) (by omega) (by omega), q3 j (by omega), o8 j (by omega)]
          · rw [o1 25 (by decide) (by decide) (by decide) (by decide)]; exact q1
          · rw [o1 25 (by decide) (by decide) (by decide) (by decide)]; exact q2
          · rw [o3, o1 25 (by decide) (by decide) (by decide) (by decide), mk]
          · rw [aAct_cg f25, f25 25 (by decide) (by decide)]
            obtain ⟨w, w1, w2⟩ := o5
            exact ⟨w, w1.trans cE, w2⟩
  exact loop n 0 (by omega)
end P54

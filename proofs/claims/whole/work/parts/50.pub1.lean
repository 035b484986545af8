/-! Public methods, first: rows, tape, small questions. -/
set_option maxRecDepth 20000 in
theorem s_X8_row {E : Ex} {μ : Mem} {Q : Option Vl → Mem → Prop} {x1 x2 x3 : Int}  (ix1 : inR x1) (ix2 : inR x2) (ix3 : inR x3) (h : (¬ (0 ≤ x1 ∧ x1 ≤ 7) → Q (some (.inl (-1000001))) μ) ∧ ((0 ≤ x1 ∧ x1 ≤ 7) → (¬ (0 ≤ x2 ∧ x2 ≤ 2) → Q (some (.inl (-1000001))) μ) ∧ ((0 ≤ x2 ∧ x2 ≤ 2) → (x3 ≤ 40 → (x3 ≥ 0 → (0 ≤ x1 ∧ x1 < 8) ∧ ∀ μ1 : Mem, μ1 = up μ 84 x1 x2 → ∀ μ3 : Mem, μ3 = up μ1 85 x1 x3 → Gg E 2 M_X8_row 52 [some (.inr 83), some (.inl x1), some (.inl x2), some (.inl x3), some (.inl 0)] [] μ3 Q) ∧ (¬ x3 ≥ 0 → ∀ μ4 : Mem, μ4 = up μ 83 4 4 → Q (some (.inl (-1000010 - 4))) μ4)) ∧ (¬ x3 ≤ 40 → Q (some (.inl (-1000001))) μ)))) : Cl E 2 M_X8_row [.inr 83, .inl x1, .inl x2, .inl x3] μ Q := by
  show Gg E 2 M_X8_row 0 [some (.inr 83), some (.inl x1), some (.inl x2), some (.inl x3), none] [] μ Q
  refine r_iloadn (q := 1) DM_X8_row_0 rfl rfl ?_
  refine r_callSi [.inl x1] (q := 4) DM_X8_row_1 rfl kM_X8_isRow lRX8_69 rfl (by decide) (Nat.le_of_ble_eq_true rfl) rfl (k_X8_isRow ix1 ⟨_, rfl, ?_⟩)
  refine r_bieq (q := 7) (t := 22) DM_X8_row_4 rfl (by decide) ⟨fun cc => ?_, fun cc => ?_⟩
  · replace h := h.1 cc
    refine r_ldc (q := 24) (n := (-1000001)) DM_X8_row_22 rfl nRX8_73 ?_
    exact r_ret (v := some (.inl (-1000001))) ⟨DM_X8_row_24, Or.inl rfl⟩ h
  · replace h := h.2 cc
    refine r_iloadn (q := 8) DM_X8_row_7 rfl rfl ?_
    refine r_iconst (q := 9) (n := 0) DM_X8_row_8 rfl ?_
    refine r_iconst (q := 10) (n := 2) DM_X8_row_9 rfl ?_
    refine r_callSi [.inl x2, .inl 0, .inl 2] (q := 13) DM_X8_row_10 rfl kM_X8_in lRX8_65 rfl (by decide) (Nat.le_of_ble_eq_true rfl) rfl (k_X8_in ix2 (by decide) (by decide) ⟨_, rfl, ?_⟩)
    refine r_bieq (q := 16) (t := 22) DM_X8_row_13 rfl (by decide) ⟨fun cc => ?_, fun cc => ?_⟩
    · replace h := h.1 cc
      refine r_ldc (q := 24) (n := (-1000001)) DM_X8_row_22 rfl nRX8_73 ?_
      exact r_ret (v := some (.inl (-1000001))) ⟨DM_X8_row_24, Or.inl rfl⟩ h
    · replace h := h.2 cc
      refine r_iloadn (q := 17) DM_X8_row_16 rfl rfl ?_
      refine r_bipush (q := 19) (n := 40) DM_X8_row_17 rfl (by decide) ?_
      refine r_icle (q := 22) (t := 25) DM_X8_row_19 rfl (by decide) ⟨⟨ix3, (by decide)⟩, fun cc => ?_, fun cc => ?_⟩
      · replace h := h.1 cc
        refine r_iloadn (q := 26) DM_X8_row_25 rfl rfl ?_
        refine r_ifge (q := 29) (t := 35) DM_X8_row_26 rfl (by decide) ⟨ix3, fun cc => ?_, fun cc => ?_⟩
        · replace h := h.1 cc
          refine r_aloadn (q := 36) DM_X8_row_35 rfl rfl ?_
          refine r_getR (q := 39) (r := 84) DM_X8_row_36 rfl fRX8_7 sh_83 rfl ?_
          refine r_iloadn (q := 40) DM_X8_row_39 rfl rfl ?_
          refine r_iloadn (q := 41) DM_X8_row_40 rfl rfl ?_
          refine v_iast (q := 42) DM_X8_row_41 rfl sh_84 (by decide) ⟨h.1, fun μ1 e1 => ?_⟩
          have i2 := h.1
          replace h := h.2 μ1 e1
          refine r_aloadn (q := 43) DM_X8_row_42 rfl rfl ?_
          refine r_getR (q := 46) (r := 85) DM_X8_row_43 rfl fRX8_13 sh_83 rfl ?_
          refine r_iloadn (q := 47) DM_X8_row_46 rfl rfl ?_
          refine r_iloadn (q := 48) DM_X8_row_47 rfl rfl ?_
          refine v_iast (q := 49) DM_X8_row_48 rfl sh_85 (by decide) ⟨i2, fun μ3 e3 => ?_⟩
          replace h := h μ3 e3
          refine r_iconst (q := 50) (n := 0) DM_X8_row_49 rfl ?_
          refine v_istore (q := 52) (ls' := [some (.inr 83), some (.inl x1), some (.inl x2), some (.inl x3), some (.inl 0)]) DM_X8_row_50 rfl (by decide) rfl ?_
          exact h
        · replace h := h.2 cc
          refine r_aloadn (q := 30) DM_X8_row_29 rfl rfl ?_
          refine r_iconst (q := 31) (n := 4) DM_X8_row_30 rfl ?_
          refine r_callVi [.inl 4] (q := 34) DM_X8_row_31 rfl kM_X8_found lRX8_74 sh_83 rfl rfl (by decide) (Nat.le_of_ble_eq_true rfl) rfl (k_X8_found  (fun μ4 e4 => ⟨_, rfl, ?_⟩))
          replace h := h μ4 e4
          exact r_ret (v := some (.inl (-1000010 - 4))) ⟨DM_X8_row_34, Or.inl rfl⟩ h
      · replace h := h.2 cc
        refine r_ldc (q := 24) (n := (-1000001)) DM_X8_row_22 rfl nRX8_73 ?_
        exact r_ret (v := some (.inl (-1000001))) ⟨DM_X8_row_24, Or.inl rfl⟩ h
set_option maxRecDepth 20000 in
theorem s_X8_row_52 {E : Ex} {μ : Mem} {Q : Option Vl → Mem → Prop} {x1 x2 x3 x4 : Int}  (h : inR x4 ∧ (x4 ≥ 40 → ∀ μ2 : Mem, μ2 = up μ 83 4 0 → Q (some (.inl x3)) μ2) ∧ (¬ x4 ≥ 40 → (0 ≤ ((40 * x1) + x4) ∧ ((40 * x1) + x4) < 320) ∧ ∀ μ3 : Mem, μ3 = up μ 86 ((40 * x1) + x4) 0 → Gg E 2 M_X8_row 52 [some (.inr 83), some (.inl x1), some (.inl x2), some (.inl x3), some (.inl (x4 + 1))] [] μ3 Q)) : Gg E 2 M_X8_row 52 [some (.inr 83), some (.inl x1), some (.inl x2), some (.inl x3), some (.inl x4)] [] μ Q := by
  refine r_iload (q := 54) DM_X8_row_52 rfl rfl ?_
  refine r_bipush (q := 56) (n := 40) DM_X8_row_54 rfl (by decide) ?_
  have i1 := h.1
  replace h := h.2
  refine r_icge (q := 59) (t := 78) DM_X8_row_56 rfl (by decide) ⟨⟨i1, (by decide)⟩, fun cc => ?_, fun cc => ?_⟩
  · replace h := h.1 cc
    refine r_aloadn (q := 79) DM_X8_row_78 rfl rfl ?_
    refine r_iloadn (q := 80) DM_X8_row_79 rfl rfl ?_
    refine r_callVi [.inl x3] (q := 83) DM_X8_row_80 rfl kM_X8_well lRX8_78 sh_83 rfl rfl (by decide) (Nat.le_of_ble_eq_true rfl) rfl (k_X8_well  (fun μ2 e2 => ⟨_, rfl, ?_⟩))
    replace h := h μ2 e2
    exact r_ret (v := some (.inl x3)) ⟨DM_X8_row_83, Or.inl rfl⟩ h
  · replace h := h.2 cc
    refine r_aloadn (q := 60) DM_X8_row_59 rfl rfl ?_
    refine r_getR (q := 63) (r := 86) DM_X8_row_60 rfl fRX8_16 sh_83 rfl ?_
    refine r_bipush (q := 65) (n := 40) DM_X8_row_63 rfl (by decide) ?_
    refine r_iloadn (q := 66) DM_X8_row_65 rfl rfl ?_
    refine r_imul (q := 67) DM_X8_row_66 rfl ?_
    refine r_iload (q := 69) DM_X8_row_67 rfl rfl ?_
    refine r_iadd (q := 70) DM_X8_row_69 rfl ?_
    refine r_iconst (q := 71) (n := 0) DM_X8_row_70 rfl ?_
    refine v_iast (q := 72) DM_X8_row_71 rfl sh_86 (by decide) ⟨h.1, fun μ3 e3 => ?_⟩
    have i4 := h.1
    replace h := h.2 μ3 e3
    refine v_iinc (q := 75) (ls' := [some (.inr 83), some (.inl x1), some (.inl x2), some (.inl x3), some (.inl (x4 + 1))]) DM_X8_row_72 rfl rfl (by decide) rfl ?_
    refine r_goto (q := 52) DM_X8_row_75 (by decide) ?_
    exact h
set_option maxRecDepth 20000 in
theorem s_X8_set {E : Ex} {μ : Mem} {Q : Option Vl → Mem → Prop} {x1 x2 x3 : Int}  (ix1 : inR x1) (ix2 : inR x2) (ix3 : inR x3) (h : ((0 ≤ x1 ∧ x1 ≤ 7) → (0 ≤ x1 ∧ x1 < 8) ∧ inR (μ 84 x1) ∧ (¬ (μ 84 x1 = -1000000) → inR ((μ 85 x1) - 1) ∧ ((0 ≤ x2 ∧ x2 ≤ ((μ 85 x1) - 1)) → Cl E 0 M_X8_cut [.inl (μ 84 x1), .inl x3] μ (fun vv μ4 => ∃ v5, vv = some (.inl v5) ∧ (0 ≤ ((40 * x1) + x2) ∧ ((40 * x1) + x2) < 320) ∧ ∀ μ6 : Mem, μ6 = up μ4 86 ((40 * x1) + x2) v5 → ∀ μ8 : Mem, μ8 = up μ6 83 4 0 → Q (some (.inl (μ6 86 ((40 * x1) + x2)))) μ8)) ∧ (¬ (0 ≤ x2 ∧ x2 ≤ ((μ 85 x1) - 1)) → ∀ μ9 : Mem, μ9 = up μ 83 4 2 → Q (some (.inl (-1000010 - 2))) μ9)) ∧ ((μ 84 x1 = -1000000) → ∀ μ10 : Mem, μ10 = up μ 83 4 1 → Q (some (.inl (-1000010 - 1))) μ10)) ∧ (¬ (0 ≤ x1 ∧ x1 ≤ 7) → Q (some (.inl (-1000001))) μ)) : Cl E 2 M_X8_set [.inr 83, .inl x1, .inl x2, .inl x3] μ Q := by
  show Gg E 2 M_X8_set 0 [some (.inr 83), some (.inl x1), some (.inl x2), some (.inl x3)] [] μ Q
  refine r_iloadn (q := 1) DM_X8_set_0 rfl rfl ?_
  refine r_callSi [.inl x1] (q := 4) DM_X8_set_1 rfl kM_X8_isRow lRX8_69 rfl (by decide) (Nat.le_of_ble_eq_true rfl) rfl (k_X8_isRow ix1 ⟨_, rfl, ?_⟩)
  refine r_bine (q := 7) (t := 10) DM_X8_set_4 rfl (by decide) ⟨fun cc => ?_, fun cc => ?_⟩
  · replace h := h.1 cc
    refine r_aloadn (q := 11) DM_X8_set_10 rfl rfl ?_
    refine r_iloadn (q := 12) DM_X8_set_11 rfl rfl ?_
    have i1 := h.1
    replace h := h.2
    have i2 := h.1
    replace h := h.2
    refine r_callVi [.inl x1] (q := 15) DM_X8_set_12 rfl kM_X8_isMissing lRX8_81 sh_83 rfl rfl (by decide) (Nat.le_of_ble_eq_true rfl) rfl (k_X8_isMissing i1 i2 ⟨_, rfl, ?_⟩)
    refine r_bieq (q := 18) (t := 24) DM_X8_set_15 rfl (by decide) ⟨fun cc => ?_, fun cc => ?_⟩
    · replace h := h.1 cc
      refine r_iloadn (q := 25) DM_X8_set_24 rfl rfl ?_
      refine r_iconst (q := 26) (n := 0) DM_X8_set_25 rfl ?_
      refine r_aloadn (q := 27) DM_X8_set_26 rfl rfl ?_
      refine r_getR (q := 30) (r := 85) DM_X8_set_27 rfl fRX8_13 sh_83 rfl ?_
      refine r_iloadn (q := 31) DM_X8_set_30 rfl rfl ?_
      refine r_iald (q := 32) DM_X8_set_31 rfl sh_85 (by decide) ⟨i1, ?_⟩
      refine r_iconst (q := 33) (n := 1) DM_X8_set_32 rfl ?_
      refine r_isub (q := 34) DM_X8_set_33 rfl ?_
      have i3 := h.1
      replace h := h.2
      refine r_callSi [.inl x2, .inl 0, .inl ((μ 85 x1) - 1)] (q := 37) DM_X8_set_34 rfl kM_X8_in lRX8_65 rfl (by decide) (Nat.le_of_ble_eq_true rfl) rfl (k_X8_in ix2 (by decide) i3 ⟨_, rfl, ?_⟩)
      refine r_bine (q := 40) (t := 46) DM_X8_set_37 rfl (by decide) ⟨fun cc => ?_, fun cc => ?_⟩
      · replace h := h.1 cc
        refine r_aloadn (q := 47) DM_X8_set_46 rfl rfl ?_
        refine r_getR (q := 50) (r := 86) DM_X8_set_47 rfl fRX8_16 sh_83 rfl ?_
        refine r_bipush (q := 52) (n := 40) DM_X8_set_50 rfl (by decide) ?_
        refine r_iloadn (q := 53) DM_X8_set_52 rfl rfl ?_
        refine r_imul (q := 54) DM_X8_set_53 rfl ?_
        refine r_iloadn (q := 55) DM_X8_set_54 rfl rfl ?_
        refine r_iadd (q := 56) DM_X8_set_55 rfl ?_
        refine r_aloadn (q := 57) DM_X8_set_56 rfl rfl ?_
        refine r_getR (q := 60) (r := 84) DM_X8_set_57 rfl fRX8_7 sh_83 rfl ?_
        refine r_iloadn (q := 61) DM_X8_set_60 rfl rfl ?_
        refine r_iald (q := 62) DM_X8_set_61 rfl sh_84 (by decide) ⟨i1, ?_⟩
        refine r_iloadn (q := 63) DM_X8_set_62 rfl rfl ?_
        refine r_callSi [.inl (μ 84 x1), .inl x3] (q := 66) DM_X8_set_63 rfl kM_X8_cut lRX8_84 rfl (by decide) (Nat.le_of_ble_eq_true rfl) rfl (Cl.imp h (fun vv μ4 h => ?_))
        obtain ⟨v5, hv, h⟩ := h
        refine ⟨v5, hv, ?_⟩
        refine v_iast (q := 67) DM_X8_set_66 rfl sh_86 (by decide) ⟨h.1, fun μ6 e6 => ?_⟩
        have i7 := h.1
        replace h := h.2 μ6 e6
        refine r_aloadn (q := 68) DM_X8_set_67 rfl rfl ?_
        refine r_aloadn (q := 69) DM_X8_set_68 rfl rfl ?_
        refine r_getR (q := 72) (r := 86) DM_X8_set_69 rfl fRX8_16 sh_83 rfl ?_
        refine r_bipush (q := 74) (n := 40) DM_X8_set_72 rfl (by decide) ?_
        refine r_iloadn (q := 75) DM_X8_set_74 rfl rfl ?_
        refine r_imul (q := 76) DM_X8_set_75 rfl ?_
        refine r_iloadn (q := 77) DM_X8_set_76 rfl rfl ?_
        refine r_iadd (q := 78) DM_X8_set_77 rfl ?_
        refine r_iald (q := 79) DM_X8_set_78 rfl sh_86 (by decide) ⟨i7, ?_⟩
        refine r_callVi [.inl (μ6 86 ((40 * x1) + x2))] (q := 82) DM_X8_set_79 rfl kM_X8_well lRX8_78 sh_83 rfl rfl (by decide) (Nat.le_of_ble_eq_true rfl) rfl (k_X8_well  (fun μ8 e8 => ⟨_, rfl, ?_⟩))
        replace h := h μ8 e8
        exact r_ret (v := some (.inl (μ6 86 ((40 * x1) + x2)))) ⟨DM_X8_set_82, Or.inl rfl⟩ h
      · replace h := h.2 cc
        refine r_aloadn (q := 41) DM_X8_set_40 rfl rfl ?_
        refine r_iconst (q := 42) (n := 2) DM_X8_set_41 rfl ?_
        refine r_callVi [.inl 2] (q := 45) DM_X8_set_42 rfl kM_X8_found lRX8_74 sh_83 rfl rfl (by decide) (Nat.le_of_ble_eq_true rfl) rfl (k_X8_found  (fun μ9 e9 => ⟨_, rfl, ?_⟩))
        replace h := h μ9 e9
        exact r_ret (v := some (.inl (-1000010 - 2))) ⟨DM_X8_set_45, Or.inl rfl⟩ h
    · replace h := h.2 cc
      refine r_aloadn (q := 19) DM_X8_set_18 rfl rfl ?_
      refine r_iconst (q := 20) (n := 1) DM_X8_set_19 rfl ?_
      refine r_callVi [.inl 1] (q := 23) DM_X8_set_20 rfl kM_X8_found lRX8_74 sh_83 rfl rfl (by decide) (Nat.le_of_ble_eq_true rfl) rfl (k_X8_found  (fun μ10 e10 => ⟨_, rfl, ?_⟩))
      replace h := h μ10 e10
      exact r_ret (v := some (.inl (-1000010 - 1))) ⟨DM_X8_set_23, Or.inl rfl⟩ h
  · replace h := h.2 cc
    refine r_ldc (q := 9) (n := (-1000001)) DM_X8_set_7 rfl nRX8_73 ?_
    exact r_ret (v := some (.inl (-1000001))) ⟨DM_X8_set_9, Or.inl rfl⟩ h
set_option maxRecDepth 20000 in
theorem s_X8_copy {E : Ex} {μ : Mem} {Q : Option Vl → Mem → Prop} {x1 x2 x3 x4 x5 : Int}  (ix1 : inR x1) (ix2 : inR x2) (ix3 : inR x3) (ix4 : inR x4) (ix5 : inR x5) (h : (¬ (0 ≤ x1 ∧ x1 ≤ 7) → Q (some (.inl (-1000001))) μ) ∧ ((0 ≤ x1 ∧ x1 ≤ 7) → ((0 ≤ x3 ∧ x3 ≤ 7) → (0 ≤ x1 ∧ x1 < 8) ∧ inR (μ 84 x1) ∧ ((μ 84 x1 = -1000000) → ∀ μ3 : Mem, μ3 = up μ 83 4 1 → Q (some (.inl (-1000010 - 1))) μ3) ∧ (¬ (μ 84 x1 = -1000000) → (0 ≤ x3 ∧ x3 < 8) ∧ inR (μ 84 x3) ∧ (¬ (μ 84 x3 = -1000000) → ((μ 84 x1) = (μ 84 x3) → Cl E 0 M_X8_isPart [.inr 83, .inl x1, .inl x2, .inl x5] μ (fun vv μ6 => ∃ v7, vv = some (.inl (bi v7)) ∧ (v7 = false → ∀ μ8 : Mem, μ8 = up μ6 83 4 2 → Q (some (.inl (-1000010 - 2))) μ8) ∧ (v7 = true → Cl E 0 M_X8_isPart [.inr 83, .inl x3, .inl x4, .inl x5] μ6 (fun vv μ9 => ∃ v10, vv = some (.inl (bi v10)) ∧ (v10 = true → Gg E 2 M_X8_copy 92 [some (.inr 83), some (.inl x1), some (.inl x2), some (.inl x3), some (.inl x4), some (.inl x5), some (.inl 0)] [] μ9 Q) ∧ (v10 = false → ∀ μ11 : Mem, μ11 = up μ9 83 4 2 → Q (some (.inl (-1000010 - 2))) μ11))))) ∧ (¬ (μ 84 x1) = (μ 84 x3) → ∀ μ12 : Mem, μ12 = up μ 83 4 5 → Q (some (.inl (-1000010 - 5))) μ12)) ∧ ((μ 84 x3 = -1000000) → ∀ μ13 : Mem, μ13 = up μ 83 4 1 → Q (some (.inl (-1000010 - 1))) μ13))) ∧ (¬ (0 ≤ x3 ∧ x3 ≤ 7) → Q (some (.inl (-1000001))) μ))) : Cl E 2 M_X8_copy [.inr 83, .inl x1, .inl x2, .inl x3, .inl x4, .inl x5] μ Q := by
  show Gg E 2 M_X8_copy 0 [some (.inr 83), some (.inl x1), some (.inl x2), some (.inl x3), some (.inl x4), some (.inl x5), none] [] μ Q
  refine r_iloadn (q := 1) DM_X8_copy_0 rfl rfl ?_
  refine r_callSi [.inl x1] (q := 4) DM_X8_copy_1 rfl kM_X8_isRow lRX8_69 rfl (by decide) (Nat.le_of_ble_eq_true rfl) rfl (k_X8_isRow ix1 ⟨_, rfl, ?_⟩)
  refine r_bieq (q := 7) (t := 14) DM_X8_copy_4 rfl (by decide) ⟨fun cc => ?_, fun cc => ?_⟩
  · replace h := h.1 cc
    refine r_ldc (q := 16) (n := (-1000001)) DM_X8_copy_14 rfl nRX8_73 ?_
    exact r_ret (v := some (.inl (-1000001))) ⟨DM_X8_copy_16, Or.inl rfl⟩ h
  · replace h := h.2 cc
    refine r_iloadn (q := 8) DM_X8_copy_7 rfl rfl ?_
    refine r_callSi [.inl x3] (q := 11) DM_X8_copy_8 rfl kM_X8_isRow lRX8_69 rfl (by decide) (Nat.le_of_ble_eq_true rfl) rfl (k_X8_isRow ix3 ⟨_, rfl, ?_⟩)
    refine r_bine (q := 14) (t := 17) DM_X8_copy_11 rfl (by decide) ⟨fun cc => ?_, fun cc => ?_⟩
    · replace h := h.1 cc
      refine r_aloadn (q := 18) DM_X8_copy_17 rfl rfl ?_
      refine r_iloadn (q := 19) DM_X8_copy_18 rfl rfl ?_
      have i1 := h.1
      replace h := h.2
      have i2 := h.1
      replace h := h.2
      refine r_callVi [.inl x1] (q := 22) DM_X8_copy_19 rfl kM_X8_isMissing lRX8_81 sh_83 rfl rfl (by decide) (Nat.le_of_ble_eq_true rfl) rfl (k_X8_isMissing i1 i2 ⟨_, rfl, ?_⟩)
      refine r_bine (q := 25) (t := 33) DM_X8_copy_22 rfl (by decide) ⟨fun cc => ?_, fun cc => ?_⟩
      · replace h := h.1 cc
        refine r_aloadn (q := 34) DM_X8_copy_33 rfl rfl ?_
        refine r_iconst (q := 35) (n := 1) DM_X8_copy_34 rfl ?_
        refine r_callVi [.inl 1] (q := 38) DM_X8_copy_35 rfl kM_X8_found lRX8_74 sh_83 rfl rfl (by decide) (Nat.le_of_ble_eq_true rfl) rfl (k_X8_found  (fun μ3 e3 => ⟨_, rfl, ?_⟩))
        replace h := h μ3 e3
        exact r_ret (v := some (.inl (-1000010 - 1))) ⟨DM_X8_copy_38, Or.inl rfl⟩ h
      · replace h := h.2 cc
        refine r_aloadn (q := 26) DM_X8_copy_25 rfl rfl ?_
        refine r_iloadn (q := 27) DM_X8_copy_26 rfl rfl ?_
        have i4 := h.1
        replace h := h.2
        have i5 := h.1
        replace h := h.2
        refine r_callVi [.inl x3] (q := 30) DM_X8_copy_27 rfl kM_X8_isMissing lRX8_81 sh_83 rfl rfl (by decide) (Nat.le_of_ble_eq_true rfl) rfl (k_X8_isMissing i4 i5 ⟨_, rfl, ?_⟩)
        refine r_bieq (q := 33) (t := 39) DM_X8_copy_30 rfl (by decide) ⟨fun cc => ?_, fun cc => ?_⟩
        · replace h := h.1 cc
          refine r_aloadn (q := 40) DM_X8_copy_39 rfl rfl ?_
          refine r_getR (q := 43) (r := 84) DM_X8_copy_40 rfl fRX8_7 sh_83 rfl ?_
          refine r_iloadn (q := 44) DM_X8_copy_43 rfl rfl ?_
          refine r_iald (q := 45) DM_X8_copy_44 rfl sh_84 (by decide) ⟨i1, ?_⟩
          refine r_aloadn (q := 46) DM_X8_copy_45 rfl rfl ?_
          refine r_getR (q := 49) (r := 84) DM_X8_copy_46 rfl fRX8_7 sh_83 rfl ?_
          refine r_iloadn (q := 50) DM_X8_copy_49 rfl rfl ?_
          refine r_iald (q := 51) DM_X8_copy_50 rfl sh_84 (by decide) ⟨i4, ?_⟩
          refine r_iceq (q := 54) (t := 60) DM_X8_copy_51 rfl (by decide) ⟨⟨i2, i5⟩, fun cc => ?_, fun cc => ?_⟩
          · replace h := h.1 cc
            refine r_aloadn (q := 61) DM_X8_copy_60 rfl rfl ?_
            refine r_iloadn (q := 62) DM_X8_copy_61 rfl rfl ?_
            refine r_iloadn (q := 63) DM_X8_copy_62 rfl rfl ?_
            refine r_iload (q := 65) DM_X8_copy_63 rfl rfl ?_
            refine r_callVi [.inl x1, .inl x2, .inl x5] (q := 68) DM_X8_copy_65 rfl kM_X8_isPart lRX8_88 sh_83 rfl rfl (by decide) (Nat.le_of_ble_eq_true rfl) rfl (Cl.imp h (fun vv μ6 h => ?_))
            obtain ⟨v7, hv, h⟩ := h
            refine ⟨_, hv, ?_⟩
            refine r_bbeq (q := 71) (t := 83) DM_X8_copy_68 rfl (by decide) ⟨fun cc => ?_, fun cc => ?_⟩
            · replace h := h.1 cc
              refine r_aloadn (q := 84) DM_X8_copy_83 rfl rfl ?_
              refine r_iconst (q := 85) (n := 2) DM_X8_copy_84 rfl ?_
              refine r_callVi [.inl 2] (q := 88) DM_X8_copy_85 rfl kM_X8_found lRX8_74 sh_83 rfl rfl (by decide) (Nat.le_of_ble_eq_true rfl) rfl (k_X8_found  (fun μ8 e8 => ⟨_, rfl, ?_⟩))
              replace h := h μ8 e8
              exact r_ret (v := some (.inl (-1000010 - 2))) ⟨DM_X8_copy_88, Or.inl rfl⟩ h
            · replace h := h.2 cc
              refine r_aloadn (q := 72) DM_X8_copy_71 rfl rfl ?_
              refine r_iloadn (q := 73) DM_X8_copy_72 rfl rfl ?_
              refine r_iload (q := 75) DM_X8_copy_73 rfl rfl ?_
              refine r_iload (q := 77) DM_X8_copy_75 rfl rfl ?_
              refine r_callVi [.inl x3, .inl x4, .inl x5] (q := 80) DM_X8_copy_77 rfl kM_X8_isPart lRX8_88 sh_83 rfl rfl (by decide) (Nat.le_of_ble_eq_true rfl) rfl (Cl.imp h (fun vv μ9 h => ?_))
              obtain ⟨v10, hv, h⟩ := h
              refine ⟨_, hv, ?_⟩
              refine r_bbne (q := 83) (t := 89) DM_X8_copy_80 rfl (by decide) ⟨fun cc => ?_, fun cc => ?_⟩
              · replace h := h.1 cc
                refine r_iconst (q := 90) (n := 0) DM_X8_copy_89 rfl ?_
                refine v_istore (q := 92) (ls' := [some (.inr 83), some (.inl x1), some (.inl x2), some (.inl x3), some (.inl x4), some (.inl x5), some (.inl 0)]) DM_X8_copy_90 rfl (by decide) rfl ?_
                exact h
              · replace h := h.2 cc
                refine r_aloadn (q := 84) DM_X8_copy_83 rfl rfl ?_
                refine r_iconst (q := 85) (n := 2) DM_X8_copy_84 rfl ?_
                refine r_callVi [.inl 2] (q := 88) DM_X8_copy_85 rfl kM_X8_found lRX8_74 sh_83 rfl rfl (by decide) (Nat.le_of_ble_eq_true rfl) rfl (k_X8_found  (fun μ11 e11 => ⟨_, rfl, ?_⟩))
                replace h := h μ11 e11
                exact r_ret (v := some (.inl (-1000010 - 2))) ⟨DM_X8_copy_88, Or.inl rfl⟩ h
          · replace h := h.2 cc
            refine r_aloadn (q := 55) DM_X8_copy_54 rfl rfl ?_
            refine r_iconst (q := 56) (n := 5) DM_X8_copy_55 rfl ?_
            refine r_callVi [.inl 5] (q := 59) DM_X8_copy_56 rfl kM_X8_found lRX8_74 sh_83 rfl rfl (by decide) (Nat.le_of_ble_eq_true rfl) rfl (k_X8_found  (fun μ12 e12 => ⟨_, rfl, ?_⟩))
            replace h := h μ12 e12
            exact r_ret (v := some (.inl (-1000010 - 5))) ⟨DM_X8_copy_59, Or.inl rfl⟩ h
        · replace h := h.2 cc
          refine r_aloadn (q := 34) DM_X8_copy_33 rfl rfl ?_
          refine r_iconst (q := 35) (n := 1) DM_X8_copy_34 rfl ?_
          refine r_callVi [.inl 1] (q := 38) DM_X8_copy_35 rfl kM_X8_found lRX8_74 sh_83 rfl rfl (by decide) (Nat.le_of_ble_eq_true rfl) rfl (k_X8_found  (fun μ13 e13 => ⟨_, rfl, ?_⟩))
          replace h := h μ13 e13
          exact r_ret (v := some (.inl (-1000010 - 1))) ⟨DM_X8_copy_38, Or.inl rfl⟩ h
    · replace h := h.2 cc
      refine r_ldc (q := 16) (n := (-1000001)) DM_X8_copy_14 rfl nRX8_73 ?_
      exact r_ret (v := some (.inl (-1000001))) ⟨DM_X8_copy_16, Or.inl rfl⟩ h
set_option maxRecDepth 20000 in
theorem s_X8_copy_92 {E : Ex} {μ : Mem} {Q : Option Vl → Mem → Prop} {x1 x2 x3 x4 x5 x6 : Int}  (h : inR x6 ∧ inR x5 ∧ (x6 ≥ x5 → Gg E 2 M_X8_copy 129 [some (.inr 83), some (.inl x1), some (.inl x2), some (.inl x3), some (.inl x4), some (.inl x5), some (.inl 0)] [] μ Q) ∧ (¬ x6 ≥ x5 → (0 ≤ (((40 * x1) + x2) + x6) ∧ (((40 * x1) + x2) + x6) < 320) ∧ (0 ≤ x6 ∧ x6 < 40) ∧ ∀ μ4 : Mem, μ4 = up μ 87 x6 (μ 86 (((40 * x1) + x2) + x6)) → Gg E 2 M_X8_copy 92 [some (.inr 83), some (.inl x1), some (.inl x2), some (.inl x3), some (.inl x4), some (.inl x5), some (.inl (x6 + 1))] [] μ4 Q)) : Gg E 2 M_X8_copy 92 [some (.inr 83), some (.inl x1), some (.inl x2), some (.inl x3), some (.inl x4), some (.inl x5), some (.inl x6)] [] μ Q := by
  refine r_iload (q := 94) DM_X8_copy_92 rfl rfl ?_
  refine r_iload (q := 96) DM_X8_copy_94 rfl rfl ?_
  have i1 := h.1
  replace h := h.2
  have i2 := h.1
  replace h := h.2
  refine r_icge (q := 99) (t := 126) DM_X8_copy_96 rfl (by decide) ⟨⟨i1, i2⟩, fun cc => ?_, fun cc => ?_⟩
  · replace h := h.1 cc
    refine r_iconst (q := 127) (n := 0) DM_X8_copy_126 rfl ?_
    refine v_istore (q := 129) (ls' := [some (.inr 83), some (.inl x1), some (.inl x2), some (.inl x3), some (.inl x4), some (.inl x5), some (.inl 0)]) DM_X8_copy_127 rfl (by decide) rfl ?_
    exact h
  · replace h := h.2 cc
    refine r_aloadn (q := 100) DM_X8_copy_99 rfl rfl ?_
    refine r_getR (q := 103) (r := 87) DM_X8_copy_100 rfl fRX8_19 sh_83 rfl ?_
    refine r_iload (q := 105) DM_X8_copy_103 rfl rfl ?_
    refine r_aloadn (q := 106) DM_X8_copy_105 rfl rfl ?_
    refine r_getR (q := 109) (r := 86) DM_X8_copy_106 rfl fRX8_16 sh_83 rfl ?_
    refine r_bipush (q := 111) (n := 40) DM_X8_copy_109 rfl (by decide) ?_
    refine r_iloadn (q := 112) DM_X8_copy_111 rfl rfl ?_
    refine r_imul (q := 113) DM_X8_copy_112 rfl ?_
    refine r_iloadn (q := 114) DM_X8_copy_113 rfl rfl ?_
    refine r_iadd (q := 115) DM_X8_copy_114 rfl ?_
    refine r_iload (q := 117) DM_X8_copy_115 rfl rfl ?_
    refine r_iadd (q := 118) DM_X8_copy_117 rfl ?_
    refine r_iald (q := 119) DM_X8_copy_118 rfl sh_86 (by decide) ⟨h.1, ?_⟩
    have i3 := h.1
    replace h := h.2
    refine v_iast (q := 120) DM_X8_copy_119 rfl sh_87 (by decide) ⟨h.1, fun μ4 e4 => ?_⟩
    have i5 := h.1
    replace h := h.2 μ4 e4
    refine v_iinc (q := 123) (ls' := [some (.inr 83), some (.inl x1), some (.inl x2), some (.inl x3), some (.inl x4), some (.inl x5), some (.inl (x6 + 1))]) DM_X8_copy_120 rfl rfl (by decide) rfl ?_
    refine r_goto (q := 92) DM_X8_copy_123 (by decide) ?_
    exact h
set_option maxRecDepth 20000 in
theorem s_X8_copy_129 {E : Ex} {μ : Mem} {Q : Option Vl → Mem → Prop} {x1 x2 x3 x4 x5 x6 : Int}  (h : inR x6 ∧ inR x5 ∧ (x6 ≥ x5 → ∀ μ3 : Mem, μ3 = up μ 83 4 0 → Q (some (.inl x5)) μ3) ∧ (¬ x6 ≥ x5 → (0 ≤ x6 ∧ x6 < 40) ∧ (0 ≤ (((40 * x3) + x4) + x6) ∧ (((40 * x3) + x4) + x6) < 320) ∧ ∀ μ5 : Mem, μ5 = up μ 86 (((40 * x3) + x4) + x6) (μ 87 x6) → Gg E 2 M_X8_copy 129 [some (.inr 83), some (.inl x1), some (.inl x2), some (.inl x3), some (.inl x4), some (.inl x5), some (.inl (x6 + 1))] [] μ5 Q)) : Gg E 2 M_X8_copy 129 [some (.inr 83), some (.inl x1), some (.inl x2), some (.inl x3), some (.inl x4), some (.inl x5), some (.inl x6)] [] μ Q := by
  refine r_iload (q := 131) DM_X8_copy_129 rfl rfl ?_
  refine r_iload (q := 133) DM_X8_copy_131 rfl rfl ?_
  have i1 := h.1
  replace h := h.2
  have i2 := h.1
  replace h := h.2
  refine r_icge (q := 136) (t := 164) DM_X8_copy_133 rfl (by decide) ⟨⟨i1, i2⟩, fun cc => ?_, fun cc => ?_⟩
  · replace h := h.1 cc
    refine r_aloadn (q := 165) DM_X8_copy_164 rfl rfl ?_
    refine r_iload (q := 167) DM_X8_copy_165 rfl rfl ?_
    refine r_callVi [.inl x5] (q := 170) DM_X8_copy_167 rfl kM_X8_well lRX8_78 sh_83 rfl rfl (by decide) (Nat.le_of_ble_eq_true rfl) rfl (k_X8_well  (fun μ3 e3 => ⟨_, rfl, ?_⟩))
    replace h := h μ3 e3
    exact r_ret (v := some (.inl x5)) ⟨DM_X8_copy_170, Or.inl rfl⟩ h
  · replace h := h.2 cc
    refine r_aloadn (q := 137) DM_X8_copy_136 rfl rfl ?_
    refine r_getR (q := 140) (r := 86) DM_X8_copy_137 rfl fRX8_16 sh_83 rfl ?_
    refine r_bipush (q := 142) (n := 40) DM_X8_copy_140 rfl (by decide) ?_
    refine r_iloadn (q := 143) DM_X8_copy_142 rfl rfl ?_
    refine r_imul (q := 144) DM_X8_copy_143 rfl ?_
    refine r_iload (q := 146) DM_X8_copy_144 rfl rfl ?_
    refine r_iadd (q := 147) DM_X8_copy_146 rfl ?_
    refine r_iload (q := 149) DM_X8_copy_147 rfl rfl ?_
    refine r_iadd (q := 150) DM_X8_copy_149 rfl ?_
    refine r_aloadn (q := 151) DM_X8_copy_150 rfl rfl ?_
    refine r_getR (q := 154) (r := 87) DM_X8_copy_151 rfl fRX8_19 sh_83 rfl ?_
    refine r_iload (q := 156) DM_X8_copy_154 rfl rfl ?_
    refine r_iald (q := 157) DM_X8_copy_156 rfl sh_87 (by decide) ⟨h.1, ?_⟩
    have i4 := h.1
    replace h := h.2
    refine v_iast (q := 158) DM_X8_copy_157 rfl sh_86 (by decide) ⟨h.1, fun μ5 e5 => ?_⟩
    have i6 := h.1
    replace h := h.2 μ5 e5
    refine v_iinc (q := 161) (ls' := [some (.inr 83), some (.inl x1), some (.inl x2), some (.inl x3), some (.inl x4), some (.inl x5), some (.inl (x6 + 1))]) DM_X8_copy_158 rfl rfl (by decide) rfl ?_
    refine r_goto (q := 129) DM_X8_copy_161 (by decide) ?_
    exact h
set_option maxRecDepth 20000 in
theorem s_X8_drop {E : Ex} {μ : Mem} {Q : Option Vl → Mem → Prop} {x1 : Int}  (ix1 : inR x1) (h : ((0 ≤ x1 ∧ x1 ≤ 7) → (0 ≤ x1 ∧ x1 < 8) ∧ inR (μ 84 x1) ∧ (¬ (μ 84 x1 = -1000000) → ∀ μ3 : Mem, μ3 = up μ 84 x1 (-1000000) → ∀ μ4 : Mem, μ4 = up μ3 83 4 0 → Q (some (.inl (μ3 85 x1))) μ4) ∧ ((μ 84 x1 = -1000000) → ∀ μ5 : Mem, μ5 = up μ 83 4 1 → Q (some (.inl (-1000010 - 1))) μ5)) ∧ (¬ (0 ≤ x1 ∧ x1 ≤ 7) → Q (some (.inl (-1000001))) μ)) : Cl E 2 M_X8_drop [.inr 83, .inl x1] μ Q := by
  show Gg E 2 M_X8_drop 0 [some (.inr 83), some (.inl x1)] [] μ Q
  refine r_iloadn (q := 1) DM_X8_drop_0 rfl rfl ?_
  refine r_callSi [.inl x1] (q := 4) DM_X8_drop_1 rfl kM_X8_isRow lRX8_69 rfl (by decide) (Nat.le_of_ble_eq_true rfl) rfl (k_X8_isRow ix1 ⟨_, rfl, ?_⟩)
  refine r_bine (q := 7) (t := 10) DM_X8_drop_4 rfl (by decide) ⟨fun cc => ?_, fun cc => ?_⟩
  · replace h := h.1 cc
    refine r_aloadn (q := 11) DM_X8_drop_10 rfl rfl ?_
    refine r_iloadn (q := 12) DM_X8_drop_11 rfl rfl ?_
    have i1 := h.1
    replace h := h.2
    have i2 := h.1
    replace h := h.2
    refine r_callVi [.inl x1] (q := 15) DM_X8_drop_12 rfl kM_X8_isMissing lRX8_81 sh_83 rfl rfl (by decide) (Nat.le_of_ble_eq_true rfl) rfl (k_X8_isMissing i1 i2 ⟨_, rfl, ?_⟩)
    refine r_bieq (q := 18) (t := 24) DM_X8_drop_15 rfl (by decide) ⟨fun cc => ?_, fun cc => ?_⟩
    · replace h := h.1 cc
      refine r_aloadn (q := 25) DM_X8_drop_24 rfl rfl ?_
      refine r_getR (q := 28) (r := 84) DM_X8_drop_25 rfl fRX8_7 sh_83 rfl ?_
      refine r_iloadn (q := 29) DM_X8_drop_28 rfl rfl ?_
      refine r_ldc (q := 31) (n := (-1000000)) DM_X8_drop_29 rfl nRX8_59 ?_
      refine v_iast (q := 32) DM_X8_drop_31 rfl sh_84 (by decide) ⟨i1, fun μ3 e3 => ?_⟩
      replace h := h μ3 e3
      refine r_aloadn (q := 33) DM_X8_drop_32 rfl rfl ?_
      refine r_aloadn (q := 34) DM_X8_drop_33 rfl rfl ?_
      refine r_getR (q := 37) (r := 85) DM_X8_drop_34 rfl fRX8_13 sh_83 rfl ?_
      refine r_iloadn (q := 38) DM_X8_drop_37 rfl rfl ?_
      refine r_iald (q := 39) DM_X8_drop_38 rfl sh_85 (by decide) ⟨i1, ?_⟩
      refine r_callVi [.inl (μ3 85 x1)] (q := 42) DM_X8_drop_39 rfl kM_X8_well lRX8_78 sh_83 rfl rfl (by decide) (Nat.le_of_ble_eq_true rfl) rfl (k_X8_well  (fun μ4 e4 => ⟨_, rfl, ?_⟩))
      replace h := h μ4 e4
      exact r_ret (v := some (.inl (μ3 85 x1))) ⟨DM_X8_drop_42, Or.inl rfl⟩ h
    · replace h := h.2 cc
      refine r_aloadn (q := 19) DM_X8_drop_18 rfl rfl ?_
      refine r_iconst (q := 20) (n := 1) DM_X8_drop_19 rfl ?_
      refine r_callVi [.inl 1] (q := 23) DM_X8_drop_20 rfl kM_X8_found lRX8_74 sh_83 rfl rfl (by decide) (Nat.le_of_ble_eq_true rfl) rfl (k_X8_found  (fun μ5 e5 => ⟨_, rfl, ?_⟩))
      replace h := h μ5 e5
      exact r_ret (v := some (.inl (-1000010 - 1))) ⟨DM_X8_drop_23, Or.inl rfl⟩ h
  · replace h := h.2 cc
    refine r_ldc (q := 9) (n := (-1000001)) DM_X8_drop_7 rfl nRX8_73 ?_
    exact r_ret (v := some (.inl (-1000001))) ⟨DM_X8_drop_9, Or.inl rfl⟩ h
set_option maxRecDepth 20000 in
theorem s_X8_feed {E : Ex} {μ : Mem} {Q : Option Vl → Mem → Prop} {x1 : Int}  (ix1 : inR x1) (h : ((0 ≤ x1 ∧ x1 ≤ 255) → inR (μ 83 6) ∧ ((μ 83 6) ≠ 120 → (0 ≤ (μ 83 6) ∧ (μ 83 6) < 120) ∧ ∀ μ2 : Mem, μ2 = up μ 88 (μ 83 6) x1 → ∀ μ4 : Mem, μ4 = up μ2 83 6 ((μ2 83 6) + 1) → Q (some (.inl (μ4 83 6))) μ4) ∧ ((μ 83 6) = 120 → Q (some (.inl (-1000003))) μ)) ∧ (¬ (0 ≤ x1 ∧ x1 ≤ 255) → Q (some (.inl (-1000001))) μ)) : Cl E 1 M_X8_feed [.inr 83, .inl x1] μ Q := by
  show Gg E 1 M_X8_feed 0 [some (.inr 83), some (.inl x1)] [] μ Q
  refine r_iloadn (q := 1) DM_X8_feed_0 rfl rfl ?_
  refine r_iconst (q := 2) (n := 0) DM_X8_feed_1 rfl ?_
  refine r_sipush (q := 5) (n := 255) DM_X8_feed_2 rfl (by decide) ?_
  refine r_callSi [.inl x1, .inl 0, .inl 255] (q := 8) DM_X8_feed_5 rfl kM_X8_in lRX8_65 rfl (by decide) (Nat.le_of_ble_eq_true rfl) rfl (k_X8_in ix1 (by decide) (by decide) ⟨_, rfl, ?_⟩)
  refine r_bine (q := 11) (t := 14) DM_X8_feed_8 rfl (by decide) ⟨fun cc => ?_, fun cc => ?_⟩
  · replace h := h.1 cc
    refine r_aloadn (q := 15) DM_X8_feed_14 rfl rfl ?_
    refine v_getI (q := 18) (ji := 6) DM_X8_feed_15 rfl fRX8_91 sh_83 rfl rfl ?_
    refine r_bipush (q := 20) (n := 120) DM_X8_feed_18 rfl (by decide) ?_
    have i1 := h.1
    replace h := h.2
    refine r_icne (q := 23) (t := 26) DM_X8_feed_20 rfl (by decide) ⟨⟨i1, (by decide)⟩, fun cc => ?_, fun cc => ?_⟩
    · replace h := h.1 cc
      refine r_aloadn (q := 27) DM_X8_feed_26 rfl rfl ?_
      refine r_getR (q := 30) (r := 88) DM_X8_feed_27 rfl fRX8_22 sh_83 rfl ?_
      refine r_aloadn (q := 31) DM_X8_feed_30 rfl rfl ?_
      refine v_getI (q := 34) (ji := 6) DM_X8_feed_31 rfl fRX8_91 sh_83 rfl rfl ?_
      refine r_iloadn (q := 35) DM_X8_feed_34 rfl rfl ?_
      refine v_iast (q := 36) DM_X8_feed_35 rfl sh_88 (by decide) ⟨h.1, fun μ2 e2 => ?_⟩
      have i3 := h.1
      replace h := h.2 μ2 e2
      refine r_aloadn (q := 37) DM_X8_feed_36 rfl rfl ?_
      refine r_dup (q := 38) DM_X8_feed_37 rfl ?_
      refine v_getI (q := 41) (ji := 6) DM_X8_feed_38 rfl fRX8_91 sh_83 rfl rfl ?_
      refine r_iconst (q := 42) (n := 1) DM_X8_feed_41 rfl ?_
      refine r_iadd (q := 43) DM_X8_feed_42 rfl ?_
      refine v_put (q := 46) (ji := 6) DM_X8_feed_43 rfl pfRX8_91 sh_83 rfl rfl (Or.inl rfl) (fun μ4 e4 => ?_)
      replace h := h μ4 e4
      refine r_aloadn (q := 47) DM_X8_feed_46 rfl rfl ?_
      refine v_getI (q := 50) (ji := 6) DM_X8_feed_47 rfl fRX8_91 sh_83 rfl rfl ?_
      exact r_ret (v := some (.inl (μ4 83 6))) ⟨DM_X8_feed_50, Or.inl rfl⟩ h
    · replace h := h.2 cc
      refine r_ldc (q := 25) (n := (-1000003)) DM_X8_feed_23 rfl nRX8_94 ?_
      exact r_ret (v := some (.inl (-1000003))) ⟨DM_X8_feed_25, Or.inl rfl⟩ h
  · replace h := h.2 cc
    refine r_ldc (q := 13) (n := (-1000001)) DM_X8_feed_11 rfl nRX8_73 ?_
    exact r_ret (v := some (.inl (-1000001))) ⟨DM_X8_feed_13, Or.inl rfl⟩ h
set_option maxRecDepth 20000 in
theorem s_X8_fault {E : Ex} {μ : Mem} {Q : Option Vl → Mem → Prop}  (h : Q (some (.inl (μ 83 7))) μ) : Cl E 0 M_X8_fault [.inr 83] μ Q := by
  show Gg E 0 M_X8_fault 0 [some (.inr 83)] [] μ Q
  refine r_aloadn (q := 1) DM_X8_fault_0 rfl rfl ?_
  refine v_getI (q := 4) (ji := 7) DM_X8_fault_1 rfl fRX8_117 sh_83 rfl rfl ?_
  exact r_ret (v := some (.inl (μ 83 7))) ⟨DM_X8_fault_4, Or.inl rfl⟩ h
set_option maxRecDepth 20000 in
theorem s_X8_status {E : Ex} {μ : Mem} {Q : Option Vl → Mem → Prop}  (h : Q (some (.inl (μ 83 4))) μ) : Cl E 0 M_X8_status [.inr 83] μ Q := by
  show Gg E 0 M_X8_status 0 [some (.inr 83)] [] μ Q
  refine r_aloadn (q := 1) DM_X8_status_0 rfl rfl ?_
  refine v_getI (q := 4) (ji := 4) DM_X8_status_1 rfl fRX8_60 sh_83 rfl rfl ?_
  exact r_ret (v := some (.inl (μ 83 4))) ⟨DM_X8_status_4, Or.inl rfl⟩ h
set_option maxRecDepth 20000 in
theorem s_X8_kind {E : Ex} {μ : Mem} {Q : Option Vl → Mem → Prop} {x1 : Int}  (ix1 : inR x1) (h : inR (μ 89 2 - 1) ∧ (¬ (0 ≤ x1 ∧ x1 ≤ μ 89 2 - 1) → Q (some (.inl (-1000001))) μ) ∧ ((0 ≤ x1 ∧ x1 ≤ μ 89 2 - 1) → (0 ≤ 13 + 13 * x1 + 0 ∧ 13 + 13 * x1 + 0 < 91) ∧ Q (some (.inl (μ 89 (13 + 13 * x1 + 0)))) μ)) : Cl E 2 M_X8_kind [.inr 83, .inl x1] μ Q := by
  show Gg E 2 M_X8_kind 0 [some (.inr 83), some (.inl x1)] [] μ Q
  refine r_aloadn (q := 1) DM_X8_kind_0 rfl rfl ?_
  refine r_iloadn (q := 2) DM_X8_kind_1 rfl rfl ?_
  have i1 := h.1
  replace h := h.2
  refine r_callVi [.inl x1] (q := 5) DM_X8_kind_2 rfl kM_X8_isPerson lRX8_210 sh_83 rfl rfl (by decide) (Nat.le_of_ble_eq_true rfl) rfl (k_X8_isPerson ix1 i1 ⟨_, rfl, ?_⟩)
  refine r_bieq (q := 8) (t := 20) DM_X8_kind_5 rfl (by decide) ⟨fun cc => ?_, fun cc => ?_⟩
  · replace h := h.1 cc
    refine r_ldc (q := 22) (n := (-1000001)) DM_X8_kind_20 rfl nRX8_73 ?_
    exact r_ret (v := some (.inl (-1000001))) ⟨DM_X8_kind_22, Or.inl rfl⟩ h
  · replace h := h.2 cc
    refine r_aloadn (q := 9) DM_X8_kind_8 rfl rfl ?_
    refine r_getR (q := 12) (r := 89) DM_X8_kind_9 rfl fRX8_25 sh_83 rfl ?_
    refine r_iloadn (q := 13) DM_X8_kind_12 rfl rfl ?_
    refine r_iconst (q := 14) (n := 0) DM_X8_kind_13 rfl ?_
    have i2 := h.1
    replace h := h.2
    refine r_callSi [.inr 89, .inl x1, .inl 0] (q := 17) DM_X8_kind_14 rfl kM_X8_of lRX8_158 rfl (by decide) (Nat.le_of_ble_eq_true rfl) rfl (k_X8_of sh_89 i2 ⟨_, rfl, ?_⟩)
    refine r_goto (q := 22) DM_X8_kind_17 (by decide) ?_
    exact r_ret (v := some (.inl (μ 89 (13 + 13 * x1 + 0)))) ⟨DM_X8_kind_22, Or.inl rfl⟩ h
set_option maxRecDepth 20000 in
theorem s_X8_as {E : Ex} {μ : Mem} {Q : Option Vl → Mem → Prop} {x1 x2 : Int}  (ix1 : inR x1) (ix2 : inR x2) (h : inR (μ 89 2 - 1) ∧ (¬ (0 ≤ x1 ∧ x1 ≤ μ 89 2 - 1) → Q (some (.inl (-1000001))) μ) ∧ ((0 ≤ x1 ∧ x1 ≤ μ 89 2 - 1) → ((0 ≤ x2 ∧ x2 ≤ 5) → (0 ≤ 13 + 13 * x1 + 0 ∧ 13 + 13 * x1 + 0 < 91) ∧ (x2 = 0 → ∀ μ3 : Mem, μ3 = up μ 83 4 0 → Q (some (.inl x1)) μ3) ∧ (¬ x2 = 0 → inR (μ 89 (13 + 13 * x1 + 0)) ∧ (x2 = (μ 89 (13 + 13 * x1 + 0)) → ∀ μ5 : Mem, μ5 = up μ 83 4 0 → Q (some (.inl x1)) μ5) ∧ (¬ x2 = (μ 89 (13 + 13 * x1 + 0)) → (x2 ≠ 1 → Gg E 2 M_X8_as 49 [some (.inr 83), some (.inl x1), some (.inl x2), some (.inl (μ 89 (13 + 13 * x1 + 0))), none] [] μ Q) ∧ (x2 = 1 → ((μ 89 (13 + 13 * x1 + 0)) < 4 → ∀ μ6 : Mem, μ6 = up μ 83 4 0 → Q (some (.inl x1)) μ6) ∧ (¬ (μ 89 (13 + 13 * x1 + 0)) < 4 → Gg E 2 M_X8_as 49 [some (.inr 83), some (.inl x1), some (.inl x2), some (.inl (μ 89 (13 + 13 * x1 + 0))), none] [] μ Q))))) ∧ (¬ (0 ≤ x2 ∧ x2 ≤ 5) → Q (some (.inl (-1000001))) μ))) : Cl E 2 M_X8_as [.inr 83, .inl x1, .inl x2] μ Q := by
  show Gg E 2 M_X8_as 0 [some (.inr 83), some (.inl x1), some (.inl x2), none, none] [] μ Q
  refine r_aloadn (q := 1) DM_X8_as_0 rfl rfl ?_
  refine r_iloadn (q := 2) DM_X8_as_1 rfl rfl ?_
  have i1 := h.1
  replace h := h.2
  refine r_callVi [.inl x1] (q := 5) DM_X8_as_2 rfl kM_X8_isPerson lRX8_210 sh_83 rfl rfl (by decide) (Nat.le_of_ble_eq_true rfl) rfl (k_X8_isPerson ix1 i1 ⟨_, rfl, ?_⟩)
  refine r_bieq (q := 8) (t := 17) DM_X8_as_5 rfl (by decide) ⟨fun cc => ?_, fun cc => ?_⟩
  · replace h := h.1 cc
    refine r_ldc (q := 19) (n := (-1000001)) DM_X8_as_17 rfl nRX8_73 ?_
    exact r_ret (v := some (.inl (-1000001))) ⟨DM_X8_as_19, Or.inl rfl⟩ h
  · replace h := h.2 cc
    refine r_iloadn (q := 9) DM_X8_as_8 rfl rfl ?_
    refine r_iconst (q := 10) (n := 0) DM_X8_as_9 rfl ?_
    refine r_iconst (q := 11) (n := 5) DM_X8_as_10 rfl ?_
    refine r_callSi [.inl x2, .inl 0, .inl 5] (q := 14) DM_X8_as_11 rfl kM_X8_in lRX8_65 rfl (by decide) (Nat.le_of_ble_eq_true rfl) rfl (k_X8_in ix2 (by decide) (by decide) ⟨_, rfl, ?_⟩)
    refine r_bine (q := 17) (t := 20) DM_X8_as_14 rfl (by decide) ⟨fun cc => ?_, fun cc => ?_⟩
    · replace h := h.1 cc
      refine r_aloadn (q := 21) DM_X8_as_20 rfl rfl ?_
      refine r_getR (q := 24) (r := 89) DM_X8_as_21 rfl fRX8_25 sh_83 rfl ?_
      refine r_iloadn (q := 25) DM_X8_as_24 rfl rfl ?_
      refine r_iconst (q := 26) (n := 0) DM_X8_as_25 rfl ?_
      have i2 := h.1
      replace h := h.2
      refine r_callSi [.inr 89, .inl x1, .inl 0] (q := 29) DM_X8_as_26 rfl kM_X8_of lRX8_158 rfl (by decide) (Nat.le_of_ble_eq_true rfl) rfl (k_X8_of sh_89 i2 ⟨_, rfl, ?_⟩)
      refine v_istoren (q := 30) (ls' := [some (.inr 83), some (.inl x1), some (.inl x2), some (.inl (μ 89 (13 + 13 * x1 + 0))), none]) DM_X8_as_29 rfl (by decide) rfl ?_
      refine r_iloadn (q := 31) DM_X8_as_30 rfl rfl ?_
      refine r_ifeq (q := 34) (t := 59) DM_X8_as_31 rfl (by decide) ⟨ix2, fun cc => ?_, fun cc => ?_⟩
      · replace h := h.1 cc
        refine r_iconst (q := 60) (n := 1) DM_X8_as_59 rfl ?_
        refine r_goto (q := 64) DM_X8_as_60 (by decide) ?_
        refine v_istore (q := 66) (ls' := [some (.inr 83), some (.inl x1), some (.inl x2), some (.inl (μ 89 (13 + 13 * x1 + 0))), some (.inl 1)]) DM_X8_as_64 rfl (by decide) rfl ?_
        refine r_iload (q := 68) DM_X8_as_66 rfl rfl ?_
        refine r_ifeq (q := 71) (t := 79) DM_X8_as_68 rfl (by decide) ⟨(by decide), fun cc => absurd cc (by decide), fun _ => ?_⟩
        refine r_aloadn (q := 72) DM_X8_as_71 rfl rfl ?_
        refine r_iloadn (q := 73) DM_X8_as_72 rfl rfl ?_
        refine r_callVi [.inl x1] (q := 76) DM_X8_as_73 rfl kM_X8_well lRX8_78 sh_83 rfl rfl (by decide) (Nat.le_of_ble_eq_true rfl) rfl (k_X8_well  (fun μ3 e3 => ⟨_, rfl, ?_⟩))
        replace h := h μ3 e3
        refine r_goto (q := 84) DM_X8_as_76 (by decide) ?_
        exact r_ret (v := some (.inl x1)) ⟨DM_X8_as_84, Or.inl rfl⟩ h
      · replace h := h.2 cc
        refine r_iloadn (q := 35) DM_X8_as_34 rfl rfl ?_
        refine r_iloadn (q := 36) DM_X8_as_35 rfl rfl ?_
        have i4 := h.1
        replace h := h.2
        refine r_iceq (q := 39) (t := 59) DM_X8_as_36 rfl (by decide) ⟨⟨ix2, i4⟩, fun cc => ?_, fun cc => ?_⟩
        · replace h := h.1 cc
          refine r_iconst (q := 60) (n := 1) DM_X8_as_59 rfl ?_
          refine r_goto (q := 64) DM_X8_as_60 (by decide) ?_
          refine v_istore (q := 66) (ls' := [some (.inr 83), some (.inl x1), some (.inl x2), some (.inl (μ 89 (13 + 13 * x1 + 0))), some (.inl 1)]) DM_X8_as_64 rfl (by decide) rfl ?_
          refine r_iload (q := 68) DM_X8_as_66 rfl rfl ?_
          refine r_ifeq (q := 71) (t := 79) DM_X8_as_68 rfl (by decide) ⟨(by decide), fun cc => absurd cc (by decide), fun _ => ?_⟩
          refine r_aloadn (q := 72) DM_X8_as_71 rfl rfl ?_
          refine r_iloadn (q := 73) DM_X8_as_72 rfl rfl ?_
          refine r_callVi [.inl x1] (q := 76) DM_X8_as_73 rfl kM_X8_well lRX8_78 sh_83 rfl rfl (by decide) (Nat.le_of_ble_eq_true rfl) rfl (k_X8_well  (fun μ5 e5 => ⟨_, rfl, ?_⟩))
          replace h := h μ5 e5
          refine r_goto (q := 84) DM_X8_as_76 (by decide) ?_
          exact r_ret (v := some (.inl x1)) ⟨DM_X8_as_84, Or.inl rfl⟩ h
        · replace h := h.2 cc
          refine r_iloadn (q := 40) DM_X8_as_39 rfl rfl ?_
          refine r_iconst (q := 41) (n := 1) DM_X8_as_40 rfl ?_
          refine r_icne (q := 44) (t := 49) DM_X8_as_41 rfl (by decide) ⟨⟨ix2, (by decide)⟩, fun cc => ?_, fun cc => ?_⟩
          · replace h := h.1 cc
            exact h
          · replace h := h.2 cc
            refine r_iloadn (q := 45) DM_X8_as_44 rfl rfl ?_
            refine r_iconst (q := 46) (n := 4) DM_X8_as_45 rfl ?_
            refine r_iclt (q := 49) (t := 59) DM_X8_as_46 rfl (by decide) ⟨⟨i4, (by decide)⟩, fun cc => ?_, fun cc => ?_⟩
            · replace h := h.1 cc
              refine r_iconst (q := 60) (n := 1) DM_X8_as_59 rfl ?_
              refine r_goto (q := 64) DM_X8_as_60 (by decide) ?_
              refine v_istore (q := 66) (ls' := [some (.inr 83), some (.inl x1), some (.inl x2), some (.inl (μ 89 (13 + 13 * x1 + 0))), some (.inl 1)]) DM_X8_as_64 rfl (by decide) rfl ?_
              refine r_iload (q := 68) DM_X8_as_66 rfl rfl ?_
              refine r_ifeq (q := 71) (t := 79) DM_X8_as_68 rfl (by decide) ⟨(by decide), fun cc => absurd cc (by decide), fun _ => ?_⟩
              refine r_aloadn (q := 72) DM_X8_as_71 rfl rfl ?_
              refine r_iloadn (q := 73) DM_X8_as_72 rfl rfl ?_
              refine r_callVi [.inl x1] (q := 76) DM_X8_as_73 rfl kM_X8_well lRX8_78 sh_83 rfl rfl (by decide) (Nat.le_of_ble_eq_true rfl) rfl (k_X8_well  (fun μ6 e6 => ⟨_, rfl, ?_⟩))
              replace h := h μ6 e6
              refine r_goto (q := 84) DM_X8_as_76 (by decide) ?_
              exact r_ret (v := some (.inl x1)) ⟨DM_X8_as_84, Or.inl rfl⟩ h
            · replace h := h.2 cc
              exact h
    · replace h := h.2 cc
      refine r_ldc (q := 19) (n := (-1000001)) DM_X8_as_17 rfl nRX8_73 ?_
      exact r_ret (v := some (.inl (-1000001))) ⟨DM_X8_as_19, Or.inl rfl⟩ h
set_option maxRecDepth 20000 in
theorem s_X8_as_49 {E : Ex} {μ : Mem} {Q : Option Vl → Mem → Prop} {x1 x2 x3 : Int}  (h : inR x2 ∧ (x2 ≠ 4 → ∀ μ2 : Mem, μ2 = up μ 83 4 3 → Q (some (.inl (-1000010 - 3))) μ2) ∧ (x2 = 4 → inR x3 ∧ (x3 ≠ 5 → ∀ μ4 : Mem, μ4 = up μ 83 4 3 → Q (some (.inl (-1000010 - 3))) μ4) ∧ (x3 = 5 → ∀ μ5 : Mem, μ5 = up μ 83 4 0 → Q (some (.inl x1)) μ5))) : Gg E 2 M_X8_as 49 [some (.inr 83), some (.inl x1), some (.inl x2), some (.inl x3), none] [] μ Q := by
  refine r_iloadn (q := 50) DM_X8_as_49 rfl rfl ?_
  refine r_iconst (q := 51) (n := 4) DM_X8_as_50 rfl ?_
  have i1 := h.1
  replace h := h.2
  refine r_icne (q := 54) (t := 63) DM_X8_as_51 rfl (by decide) ⟨⟨i1, (by decide)⟩, fun cc => ?_, fun cc => ?_⟩
  · replace h := h.1 cc
    refine r_iconst (q := 64) (n := 0) DM_X8_as_63 rfl ?_
    refine v_istore (q := 66) (ls' := [some (.inr 83), some (.inl x1), some (.inl x2), some (.inl x3), some (.inl 0)]) DM_X8_as_64 rfl (by decide) rfl ?_
    refine r_iload (q := 68) DM_X8_as_66 rfl rfl ?_
    refine r_ifeq (q := 71) (t := 79) DM_X8_as_68 rfl (by decide) ⟨(by decide), fun _ => ?_, fun cc => absurd cc (by decide)⟩
    refine r_aloadn (q := 80) DM_X8_as_79 rfl rfl ?_
    refine r_iconst (q := 81) (n := 3) DM_X8_as_80 rfl ?_
    refine r_callVi [.inl 3] (q := 84) DM_X8_as_81 rfl kM_X8_found lRX8_74 sh_83 rfl rfl (by decide) (Nat.le_of_ble_eq_true rfl) rfl (k_X8_found  (fun μ2 e2 => ⟨_, rfl, ?_⟩))
    replace h := h μ2 e2
    exact r_ret (v := some (.inl (-1000010 - 3))) ⟨DM_X8_as_84, Or.inl rfl⟩ h
  · replace h := h.2 cc
    refine r_iloadn (q := 55) DM_X8_as_54 rfl rfl ?_
    refine r_iconst (q := 56) (n := 5) DM_X8_as_55 rfl ?_
    have i3 := h.1
    replace h := h.2
    refine r_icne (q := 59) (t := 63) DM_X8_as_56 rfl (by decide) ⟨⟨i3, (by decide)⟩, fun cc => ?_, fun cc => ?_⟩
    · replace h := h.1 cc
      refine r_iconst (q := 64) (n := 0) DM_X8_as_63 rfl ?_
      refine v_istore (q := 66) (ls' := [some (.inr 83), some (.inl x1), some (.inl x2), some (.inl x3), some (.inl 0)]) DM_X8_as_64 rfl (by decide) rfl ?_
      refine r_iload (q := 68) DM_X8_as_66 rfl rfl ?_
      refine r_ifeq (q := 71) (t := 79) DM_X8_as_68 rfl (by decide) ⟨(by decide), fun _ => ?_, fun cc => absurd cc (by decide)⟩
      refine r_aloadn (q := 80) DM_X8_as_79 rfl rfl ?_
      refine r_iconst (q := 81) (n := 3) DM_X8_as_80 rfl ?_
      refine r_callVi [.inl 3] (q := 84) DM_X8_as_81 rfl kM_X8_found lRX8_74 sh_83 rfl rfl (by decide) (Nat.le_of_ble_eq_true rfl) rfl (k_X8_found  (fun μ4 e4 => ⟨_, rfl, ?_⟩))
      replace h := h μ4 e4
      exact r_ret (v := some (.inl (-1000010 - 3))) ⟨DM_X8_as_84, Or.inl rfl⟩ h
    · replace h := h.2 cc
      refine r_iconst (q := 60) (n := 1) DM_X8_as_59 rfl ?_
      refine r_goto (q := 64) DM_X8_as_60 (by decide) ?_
      refine v_istore (q := 66) (ls' := [some (.inr 83), some (.inl x1), some (.inl x2), some (.inl x3), some (.inl 1)]) DM_X8_as_64 rfl (by decide) rfl ?_
      refine r_iload (q := 68) DM_X8_as_66 rfl rfl ?_
      refine r_ifeq (q := 71) (t := 79) DM_X8_as_68 rfl (by decide) ⟨(by decide), fun cc => absurd cc (by decide), fun _ => ?_⟩
      refine r_aloadn (q := 72) DM_X8_as_71 rfl rfl ?_
      refine r_iloadn (q := 73) DM_X8_as_72 rfl rfl ?_
      refine r_callVi [.inl x1] (q := 76) DM_X8_as_73 rfl kM_X8_well lRX8_78 sh_83 rfl rfl (by decide) (Nat.le_of_ble_eq_true rfl) rfl (k_X8_well  (fun μ5 e5 => ⟨_, rfl, ?_⟩))
      replace h := h μ5 e5
      refine r_goto (q := 84) DM_X8_as_76 (by decide) ?_
      exact r_ret (v := some (.inl x1)) ⟨DM_X8_as_84, Or.inl rfl⟩ h
set_option maxRecDepth 20000 in
theorem s_X8_trace {E : Ex} {μ : Mem} {Q : Option Vl → Mem → Prop} {x1 : Int}  (ix1 : inR x1) (h : inR ((μ 83 21) - 1) ∧ (¬ (0 ≤ x1 ∧ x1 ≤ ((μ 83 21) - 1)) → Q (some (.inl (-1000000))) μ) ∧ ((0 ≤ x1 ∧ x1 ≤ ((μ 83 21) - 1)) → (0 ≤ x1 ∧ x1 < 16) ∧ Q (some (.inl (μ 95 x1))) μ)) : Cl E 1 M_X8_trace [.inr 83, .inl x1] μ Q := by
  show Gg E 1 M_X8_trace 0 [some (.inr 83), some (.inl x1)] [] μ Q
  refine r_iloadn (q := 1) DM_X8_trace_0 rfl rfl ?_
  refine r_iconst (q := 2) (n := 0) DM_X8_trace_1 rfl ?_
  refine r_aloadn (q := 3) DM_X8_trace_2 rfl rfl ?_
  refine v_getI (q := 6) (ji := 21) DM_X8_trace_3 rfl fRX8_248 sh_83 rfl rfl ?_
  refine r_iconst (q := 7) (n := 1) DM_X8_trace_6 rfl ?_
  refine r_isub (q := 8) DM_X8_trace_7 rfl ?_
  have i1 := h.1
  replace h := h.2
  refine r_callSi [.inl x1, .inl 0, .inl ((μ 83 21) - 1)] (q := 11) DM_X8_trace_8 rfl kM_X8_in lRX8_65 rfl (by decide) (Nat.le_of_ble_eq_true rfl) rfl (k_X8_in ix1 (by decide) i1 ⟨_, rfl, ?_⟩)
  refine r_bieq (q := 14) (t := 23) DM_X8_trace_11 rfl (by decide) ⟨fun cc => ?_, fun cc => ?_⟩
  · replace h := h.1 cc
    refine r_ldc (q := 25) (n := (-1000000)) DM_X8_trace_23 rfl nRX8_59 ?_
    exact r_ret (v := some (.inl (-1000000))) ⟨DM_X8_trace_25, Or.inl rfl⟩ h
  · replace h := h.2 cc
    refine r_aloadn (q := 15) DM_X8_trace_14 rfl rfl ?_
    refine r_getR (q := 18) (r := 95) DM_X8_trace_15 rfl fRX8_44 sh_83 rfl ?_
    refine r_iloadn (q := 19) DM_X8_trace_18 rfl rfl ?_
    refine r_iald (q := 20) DM_X8_trace_19 rfl sh_95 (by decide) ⟨h.1, ?_⟩
    have i2 := h.1
    replace h := h.2
    refine r_goto (q := 25) DM_X8_trace_20 (by decide) ?_
    exact r_ret (v := some (.inl (μ 95 x1))) ⟨DM_X8_trace_25, Or.inl rfl⟩ h
set_option maxRecDepth 20000 in
theorem s_X8_name {E : Ex} {μ : Mem} {Q : Option Vl → Mem → Prop} {x1 x2 : Int}  (ix1 : inR x1) (ix2 : inR x2) (h : Cl E 2 M_X8_isPlaceOf [.inr 83, .inl x1, .inl x2] μ (fun vv μ1 => ∃ v2, vv = some (.inl (bi v2)) ∧ (v2 = false → Q (some (.inl (-1000001))) μ1) ∧ (v2 = true → (0 ≤ 13 + 13 * x1 + (4 + x2) ∧ 13 + 13 * x1 + (4 + x2) < 91) ∧ Q (some (.inl (μ1 89 (13 + 13 * x1 + (4 + x2))))) μ1))) : Cl E 3 M_X8_name [.inr 83, .inl x1, .inl x2] μ Q := by
  show Gg E 3 M_X8_name 0 [some (.inr 83), some (.inl x1), some (.inl x2)] [] μ Q
  refine r_aloadn (q := 1) DM_X8_name_0 rfl rfl ?_
  refine r_iloadn (q := 2) DM_X8_name_1 rfl rfl ?_
  refine r_iloadn (q := 3) DM_X8_name_2 rfl rfl ?_
  refine r_callVi [.inl x1, .inl x2] (q := 6) DM_X8_name_3 rfl kM_X8_isPlaceOf lRX8_213 sh_83 rfl rfl (by decide) (Nat.le_of_ble_eq_true rfl) rfl (Cl.imp h (fun vv μ1 h => ?_))
  obtain ⟨v2, hv, h⟩ := h
  refine ⟨_, hv, ?_⟩
  refine r_bbeq (q := 9) (t := 23) DM_X8_name_6 rfl (by decide) ⟨fun cc => ?_, fun cc => ?_⟩
  · replace h := h.1 cc
    refine r_ldc (q := 25) (n := (-1000001)) DM_X8_name_23 rfl nRX8_73 ?_
    exact r_ret (v := some (.inl (-1000001))) ⟨DM_X8_name_25, Or.inl rfl⟩ h
  · replace h := h.2 cc
    refine r_aloadn (q := 10) DM_X8_name_9 rfl rfl ?_
    refine r_getR (q := 13) (r := 89) DM_X8_name_10 rfl fRX8_25 sh_83 rfl ?_
    refine r_iloadn (q := 14) DM_X8_name_13 rfl rfl ?_
    refine r_iconst (q := 15) (n := 4) DM_X8_name_14 rfl ?_
    refine r_iloadn (q := 16) DM_X8_name_15 rfl rfl ?_
    refine r_iadd (q := 17) DM_X8_name_16 rfl ?_
    have i3 := h.1
    replace h := h.2
    refine r_callSi [.inr 89, .inl x1, .inl (4 + x2)] (q := 20) DM_X8_name_17 rfl kM_X8_of lRX8_158 rfl (by decide) (Nat.le_of_ble_eq_true rfl) rfl (k_X8_of sh_89 i3 ⟨_, rfl, ?_⟩)
    refine r_goto (q := 25) DM_X8_name_20 (by decide) ?_
    exact r_ret (v := some (.inl (μ1 89 (13 + 13 * x1 + (4 + x2))))) ⟨DM_X8_name_25, Or.inl rfl⟩ h
set_option maxRecDepth 20000 in
theorem s_X8_order {E : Ex} {μ : Mem} {Q : Option Vl → Mem → Prop} {x1 : Int}  (ix1 : inR x1) (h : inR (μ 89 0) ∧ ((0 < μ 89 0) → ((0 ≤ x1 ∧ x1 ≤ 7) → inR (μ 89 1) ∧ ((μ 89 1) ≠ 0 → (inR (μ 89 1) ∧ (μ 89 1) ≠ 0) ∧ (0 ≤ (5 + (jrem (x1 + (jdiv (μ 89 3) (μ 89 1))) 8)) ∧ (5 + (jrem (x1 + (jdiv (μ 89 3) (μ 89 1))) 8)) < 91) ∧ Q (some (.inl (μ 89 (5 + (jrem (x1 + (jdiv (μ 89 3) (μ 89 1))) 8))))) μ) ∧ ((μ 89 1) = 0 → (0 ≤ (5 + (jrem (x1 + 0) 8)) ∧ (5 + (jrem (x1 + 0) 8)) < 91) ∧ Q (some (.inl (μ 89 (5 + (jrem (x1 + 0) 8))))) μ)) ∧ (¬ (0 ≤ x1 ∧ x1 ≤ 7) → Q (some (.inl (-1000001))) μ)) ∧ (¬ (0 < μ 89 0) → Q (some (.inl (-1000002))) μ)) : Cl E 1 M_X8_order [.inr 83, .inl x1] μ Q := by
  show Gg E 1 M_X8_order 0 [some (.inr 83), some (.inl x1), none] [] μ Q
  refine r_aloadn (q := 1) DM_X8_order_0 rfl rfl ?_
  have i1 := h.1
  replace h := h.2
  refine r_callVi [] (q := 4) DM_X8_order_1 rfl kM_X8_isCourt lRX8_200 sh_83 rfl rfl (by decide) (Nat.le_of_ble_eq_true rfl) rfl (k_X8_isCourt i1 ⟨_, rfl, ?_⟩)
  refine r_bine (q := 7) (t := 10) DM_X8_order_4 rfl (by decide) ⟨fun cc => ?_, fun cc => ?_⟩
  · replace h := h.1 cc
    refine r_iloadn (q := 11) DM_X8_order_10 rfl rfl ?_
    refine r_iconst (q := 12) (n := 0) DM_X8_order_11 rfl ?_
    refine r_bipush (q := 14) (n := 7) DM_X8_order_12 rfl (by decide) ?_
    refine r_callSi [.inl x1, .inl 0, .inl 7] (q := 17) DM_X8_order_14 rfl kM_X8_in lRX8_65 rfl (by decide) (Nat.le_of_ble_eq_true rfl) rfl (k_X8_in ix1 (by decide) (by decide) ⟨_, rfl, ?_⟩)
    refine r_bine (q := 20) (t := 23) DM_X8_order_17 rfl (by decide) ⟨fun cc => ?_, fun cc => ?_⟩
    · replace h := h.1 cc
      refine r_aloadn (q := 24) DM_X8_order_23 rfl rfl ?_
      refine r_getR (q := 27) (r := 89) DM_X8_order_24 rfl fRX8_25 sh_83 rfl ?_
      refine r_iconst (q := 28) (n := 1) DM_X8_order_27 rfl ?_
      refine r_iald (q := 29) DM_X8_order_28 rfl sh_89 (by decide) ⟨by decide, ?_⟩
      have i2 := h.1
      replace h := h.2
      refine r_ifne (q := 32) (t := 36) DM_X8_order_29 rfl (by decide) ⟨i2, fun cc => ?_, fun cc => ?_⟩
      · replace h := h.1 cc
        refine r_aloadn (q := 37) DM_X8_order_36 rfl rfl ?_
        refine r_getR (q := 40) (r := 89) DM_X8_order_37 rfl fRX8_25 sh_83 rfl ?_
        refine r_iconst (q := 41) (n := 3) DM_X8_order_40 rfl ?_
        refine r_iald (q := 42) DM_X8_order_41 rfl sh_89 (by decide) ⟨by decide, ?_⟩
        refine r_aloadn (q := 43) DM_X8_order_42 rfl rfl ?_
        refine r_getR (q := 46) (r := 89) DM_X8_order_43 rfl fRX8_25 sh_83 rfl ?_
        refine r_iconst (q := 47) (n := 1) DM_X8_order_46 rfl ?_
        refine r_iald (q := 48) DM_X8_order_47 rfl sh_89 (by decide) ⟨by decide, ?_⟩
        refine r_idiv (q := 49) DM_X8_order_48 rfl h.1 ?_
        replace h := h.2
        refine v_istoren (q := 50) (ls' := [some (.inr 83), some (.inl x1), some (.inl (jdiv (μ 89 3) (μ 89 1)))]) DM_X8_order_49 rfl (by decide) rfl ?_
        refine r_aloadn (q := 51) DM_X8_order_50 rfl rfl ?_
        refine r_getR (q := 54) (r := 89) DM_X8_order_51 rfl fRX8_25 sh_83 rfl ?_
        refine r_iconst (q := 55) (n := 5) DM_X8_order_54 rfl ?_
        refine r_iloadn (q := 56) DM_X8_order_55 rfl rfl ?_
        refine r_iloadn (q := 57) DM_X8_order_56 rfl rfl ?_
        refine r_iadd (q := 58) DM_X8_order_57 rfl ?_
        refine r_bipush (q := 60) (n := 8) DM_X8_order_58 rfl (by decide) ?_
        refine r_irem (q := 61) DM_X8_order_60 rfl (by decide) ?_
        refine r_iadd (q := 62) DM_X8_order_61 rfl ?_
        refine r_iald (q := 63) DM_X8_order_62 rfl sh_89 (by decide) ⟨h.1, ?_⟩
        have i3 := h.1
        replace h := h.2
        exact r_ret (v := some (.inl (μ 89 (5 + (jrem (x1 + (jdiv (μ 89 3) (μ 89 1))) 8))))) ⟨DM_X8_order_63, Or.inl rfl⟩ h
      · replace h := h.2 cc
        refine r_iconst (q := 33) (n := 0) DM_X8_order_32 rfl ?_
        refine r_goto (q := 49) DM_X8_order_33 (by decide) ?_
        refine v_istoren (q := 50) (ls' := [some (.inr 83), some (.inl x1), some (.inl 0)]) DM_X8_order_49 rfl (by decide) rfl ?_
        refine r_aloadn (q := 51) DM_X8_order_50 rfl rfl ?_
        refine r_getR (q := 54) (r := 89) DM_X8_order_51 rfl fRX8_25 sh_83 rfl ?_
        refine r_iconst (q := 55) (n := 5) DM_X8_order_54 rfl ?_
        refine r_iloadn (q := 56) DM_X8_order_55 rfl rfl ?_
        refine r_iloadn (q := 57) DM_X8_order_56 rfl rfl ?_
        refine r_iadd (q := 58) DM_X8_order_57 rfl ?_
        refine r_bipush (q := 60) (n := 8) DM_X8_order_58 rfl (by decide) ?_
        refine r_irem (q := 61) DM_X8_order_60 rfl (by decide) ?_
        refine r_iadd (q := 62) DM_X8_order_61 rfl ?_
        refine r_iald (q := 63) DM_X8_order_62 rfl sh_89 (by decide) ⟨h.1, ?_⟩
        have i4 := h.1
        replace h := h.2
        exact r_ret (v := some (.inl (μ 89 (5 + (jrem (x1 + 0) 8))))) ⟨DM_X8_order_63, Or.inl rfl⟩ h
    · replace h := h.2 cc
      refine r_ldc (q := 22) (n := (-1000001)) DM_X8_order_20 rfl nRX8_73 ?_
      exact r_ret (v := some (.inl (-1000001))) ⟨DM_X8_order_22, Or.inl rfl⟩ h
  · replace h := h.2 cc
    refine r_ldc (q := 9) (n := (-1000002)) DM_X8_order_7 rfl nRX8_203 ?_
    exact r_ret (v := some (.inl (-1000002))) ⟨DM_X8_order_9, Or.inl rfl⟩ h
set_option maxRecDepth 20000 in
theorem s_X7_row {E : Ex} {μ : Mem} {Q : Option Vl → Mem → Prop} {x1 x2 x3 : Int}  (ix1 : inR x1) (ix2 : inR x2) (ix3 : inR x3) (h : (¬ (0 ≤ x1 ∧ x1 < 8) → Q (some (.inl (-1000001))) μ) ∧ ((0 ≤ x1 ∧ x1 < 8) → (¬ (0 ≤ x2 ∧ x2 < 3) → Q (some (.inl (-1000001))) μ) ∧ ((0 ≤ x2 ∧ x2 < 3) → (x3 ≤ 40 → (x3 ≥ 0 → (0 ≤ x1 ∧ x1 < 8) ∧ (roS (rw x1) → ∀ μ2 : Mem, (μ2 (rw x1) 1 = x2 ∧ μ2 (rw x1) 2 = x3 ∧ (∀ i, μ2 ((rw x1) + 1) i = 0) ∧ ∀ k, k ≠ (rw x1) → k ≠ (rw x1) + 1 → μ2 k = μ k) → ∀ μ3 : Mem, μ3 = up μ2 0 10 0 → Q (some (.inl x3)) μ3)) ∧ (¬ x3 ≥ 0 → ∀ μ4 : Mem, μ4 = up μ 0 10 4 → Q (some (.inl (-1000010 - 4))) μ4)) ∧ (¬ x3 ≤ 40 → Q (some (.inl (-1000001))) μ)))) : Cl E 1 M_X7_row [.inr 0, .inl x1, .inl x2, .inl x3] μ Q := by
  show Gg E 1 M_X7_row 0 [some (.inr 0), some (.inl x1), some (.inl x2), some (.inl x3)] [] μ Q
  refine r_iloadn (q := 1) DM_X7_row_0 rfl rfl ?_
  refine r_bipush (q := 3) (n := 8) DM_X7_row_1 rfl (by decide) ?_
  refine r_callSi [.inl x1, .inl 8] (q := 6) DM_X7_row_3 rfl kM_X7_isIn lRX7_65 rfl (by decide) (Nat.le_of_ble_eq_true rfl) rfl (k_X7_isIn ix1 (by decide) ⟨_, rfl, ?_⟩)
  refine r_bieq (q := 9) (t := 23) DM_X7_row_6 rfl (by decide) ⟨fun cc => ?_, fun cc => ?_⟩
  · replace h := h.1 cc
    refine r_ldc (q := 25) (n := (-1000001)) DM_X7_row_23 rfl nRX7_69 ?_
    exact r_ret (v := some (.inl (-1000001))) ⟨DM_X7_row_25, Or.inl rfl⟩ h
  · replace h := h.2 cc
    refine r_iloadn (q := 10) DM_X7_row_9 rfl rfl ?_
    refine r_iconst (q := 11) (n := 3) DM_X7_row_10 rfl ?_
    refine r_callSi [.inl x2, .inl 3] (q := 14) DM_X7_row_11 rfl kM_X7_isIn lRX7_65 rfl (by decide) (Nat.le_of_ble_eq_true rfl) rfl (k_X7_isIn ix2 (by decide) ⟨_, rfl, ?_⟩)
    refine r_bieq (q := 17) (t := 23) DM_X7_row_14 rfl (by decide) ⟨fun cc => ?_, fun cc => ?_⟩
    · replace h := h.1 cc
      refine r_ldc (q := 25) (n := (-1000001)) DM_X7_row_23 rfl nRX7_69 ?_
      exact r_ret (v := some (.inl (-1000001))) ⟨DM_X7_row_25, Or.inl rfl⟩ h
    · replace h := h.2 cc
      refine r_iloadn (q := 18) DM_X7_row_17 rfl rfl ?_
      refine r_bipush (q := 20) (n := 40) DM_X7_row_18 rfl (by decide) ?_
      refine r_icle (q := 23) (t := 26) DM_X7_row_20 rfl (by decide) ⟨⟨ix3, (by decide)⟩, fun cc => ?_, fun cc => ?_⟩
      · replace h := h.1 cc
        refine r_iloadn (q := 27) DM_X7_row_26 rfl rfl ?_
        refine r_ifge (q := 30) (t := 36) DM_X7_row_27 rfl (by decide) ⟨ix3, fun cc => ?_, fun cc => ?_⟩
        · replace h := h.1 cc
          refine r_aloadn (q := 37) DM_X7_row_36 rfl rfl ?_
          refine r_getR (q := 40) (r := 1) DM_X7_row_37 rfl fRX7_11 sh_0 rfl ?_
          refine r_iloadn (q := 41) DM_X7_row_40 rfl rfl ?_
          refine v_aaR (q := 42) DM_X7_row_41 rfl ⟨h.1, fun w1 => ?_⟩
          replace h := h.2 w1
          refine r_iloadn (q := 43) DM_X7_row_42 rfl rfl ?_
          refine r_iloadn (q := 44) DM_X7_row_43 rfl rfl ?_
          refine r_callVv [.inl x2, .inl x3] (q := 47) DM_X7_row_44 rfl kM_X6_begin lRX7_74 (ro0 w1) rfl rfl (by decide) (Nat.le_of_ble_eq_true rfl) rfl (k_X6_begin w1 (fun μ2 e2 => ⟨rfl, ?_⟩))
          replace h := h μ2 e2
          refine r_aloadn (q := 48) DM_X7_row_47 rfl rfl ?_
          refine r_iloadn (q := 49) DM_X7_row_48 rfl rfl ?_
          refine r_callVi [.inl x3] (q := 52) DM_X7_row_49 rfl kM_X7_unfound lRX7_78 sh_0 rfl rfl (by decide) (Nat.le_of_ble_eq_true rfl) rfl (k_X7_unfound  (fun μ3 e3 => ⟨_, rfl, ?_⟩))
          replace h := h μ3 e3
          exact r_ret (v := some (.inl x3)) ⟨DM_X7_row_52, Or.inl rfl⟩ h
        · replace h := h.2 cc
          refine r_aloadn (q := 31) DM_X7_row_30 rfl rfl ?_
          refine r_iconst (q := 32) (n := 4) DM_X7_row_31 rfl ?_
          refine r_callVi [.inl 4] (q := 35) DM_X7_row_32 rfl kM_X7_found lRX7_70 sh_0 rfl rfl (by decide) (Nat.le_of_ble_eq_true rfl) rfl (k_X7_found  (fun μ4 e4 => ⟨_, rfl, ?_⟩))
          replace h := h μ4 e4
          exact r_ret (v := some (.inl (-1000010 - 4))) ⟨DM_X7_row_35, Or.inl rfl⟩ h
      · replace h := h.2 cc
        refine r_ldc (q := 25) (n := (-1000001)) DM_X7_row_23 rfl nRX7_69 ?_
        exact r_ret (v := some (.inl (-1000001))) ⟨DM_X7_row_25, Or.inl rfl⟩ h
set_option maxRecDepth 20000 in
theorem s_X7_set {E : Ex} {μ : Mem} {Q : Option Vl → Mem → Prop} {x1 x2 x3 : Int}  (ix1 : inR x1) (ix2 : inR x2) (ix3 : inR x3) (h : ((0 ≤ x1 ∧ x1 < 8) → (0 ≤ x1 ∧ x1 < 8) ∧ (roS (rw x1) → inR (μ (rw x1) 2) ∧ (¬ (μ (rw x1) 2 = -1) → ((0 ≤ x2 ∧ x2 < (μ (rw x1) 2)) → inR (μ (rw x1) 1) ∧ (0 ≤ x2 ∧ x2 < 40) ∧ ∀ μ4 : Mem, μ4 = up μ ((rw x1) + 1) x2 (rCut (μ (rw x1) 1) x3) → ∀ μ6 : Mem, μ6 = up μ4 0 10 0 → Q (some (.inl (μ4 ((rw x1) + 1) x2))) μ6) ∧ (¬ (0 ≤ x2 ∧ x2 < (μ (rw x1) 2)) → ∀ μ7 : Mem, μ7 = up μ 0 10 2 → Q (some (.inl (-1000010 - 2))) μ7)) ∧ ((μ (rw x1) 2 = -1) → ∀ μ8 : Mem, μ8 = up μ 0 10 1 → Q (some (.inl (-1000010 - 1))) μ8))) ∧ (¬ (0 ≤ x1 ∧ x1 < 8) → Q (some (.inl (-1000001))) μ)) : Cl E 1 M_X7_set [.inr 0, .inl x1, .inl x2, .inl x3] μ Q := by
  show Gg E 1 M_X7_set 0 [some (.inr 0), some (.inl x1), some (.inl x2), some (.inl x3), none] [] μ Q
  refine r_iloadn (q := 1) DM_X7_set_0 rfl rfl ?_
  refine r_bipush (q := 3) (n := 8) DM_X7_set_1 rfl (by decide) ?_
  refine r_callSi [.inl x1, .inl 8] (q := 6) DM_X7_set_3 rfl kM_X7_isIn lRX7_65 rfl (by decide) (Nat.le_of_ble_eq_true rfl) rfl (k_X7_isIn ix1 (by decide) ⟨_, rfl, ?_⟩)
  refine r_bine (q := 9) (t := 12) DM_X7_set_6 rfl (by decide) ⟨fun cc => ?_, fun cc => ?_⟩
  · replace h := h.1 cc
    refine r_aloadn (q := 13) DM_X7_set_12 rfl rfl ?_
    refine r_getR (q := 16) (r := 1) DM_X7_set_13 rfl fRX7_11 sh_0 rfl ?_
    refine r_iloadn (q := 17) DM_X7_set_16 rfl rfl ?_
    refine v_aaR (q := 18) DM_X7_set_17 rfl ⟨h.1, fun w1 => ?_⟩
    replace h := h.2 w1
    refine v_astore (q := 20) (ls' := [some (.inr 0), some (.inl x1), some (.inl x2), some (.inl x3), some (.inr (rw x1))]) DM_X7_set_18 rfl (by decide) rfl ?_
    refine r_aload (q := 22) DM_X7_set_20 rfl rfl ?_
    have i2 := h.1
    replace h := h.2
    refine r_callVi [] (q := 25) DM_X7_set_22 rfl kM_X6_isMissing lRX7_81 (ro0 w1) rfl rfl (by decide) (Nat.le_of_ble_eq_true rfl) rfl (k_X6_isMissing w1 i2 ⟨_, rfl, ?_⟩)
    refine r_bieq (q := 28) (t := 34) DM_X7_set_25 rfl (by decide) ⟨fun cc => ?_, fun cc => ?_⟩
    · replace h := h.1 cc
      refine r_iloadn (q := 35) DM_X7_set_34 rfl rfl ?_
      refine r_aload (q := 37) DM_X7_set_35 rfl rfl ?_
      refine v_getI (q := 40) (ji := 2) DM_X7_set_37 rfl fRX7_85 (ro0 w1) rfl rfl ?_
      refine r_callSi [.inl x2, .inl (μ (rw x1) 2)] (q := 43) DM_X7_set_40 rfl kM_X7_isIn lRX7_65 rfl (by decide) (Nat.le_of_ble_eq_true rfl) rfl (k_X7_isIn ix2 i2 ⟨_, rfl, ?_⟩)
      refine r_bine (q := 46) (t := 52) DM_X7_set_43 rfl (by decide) ⟨fun cc => ?_, fun cc => ?_⟩
      · replace h := h.1 cc
        refine r_aload (q := 54) DM_X7_set_52 rfl rfl ?_
        refine r_getR (q := 57) (r := (rw x1) + 1) DM_X7_set_54 rfl fRX7_89 (ro0 w1) rfl ?_
        refine r_iloadn (q := 58) DM_X7_set_57 rfl rfl ?_
        refine r_aload (q := 60) DM_X7_set_58 rfl rfl ?_
        refine r_iloadn (q := 61) DM_X7_set_60 rfl rfl ?_
        have i3 := h.1
        replace h := h.2
        refine r_callVi [.inl x3] (q := 64) DM_X7_set_61 rfl kM_X6_cut lRX7_93 (ro0 w1) rfl rfl (by decide) (Nat.le_of_ble_eq_true rfl) rfl (k_X6_cut w1 i3 ⟨_, rfl, ?_⟩)
        refine v_iast (q := 65) DM_X7_set_64 rfl (ro1 w1) (by decide) ⟨h.1, fun μ4 e4 => ?_⟩
        have i5 := h.1
        replace h := h.2 μ4 e4
        refine r_aloadn (q := 66) DM_X7_set_65 rfl rfl ?_
        refine r_aload (q := 68) DM_X7_set_66 rfl rfl ?_
        refine r_getR (q := 71) (r := (rw x1) + 1) DM_X7_set_68 rfl fRX7_89 (ro0 w1) rfl ?_
        refine r_iloadn (q := 72) DM_X7_set_71 rfl rfl ?_
        refine r_iald (q := 73) DM_X7_set_72 rfl (ro1 w1) (by decide) ⟨i5, ?_⟩
        refine r_callVi [.inl (μ4 ((rw x1) + 1) x2)] (q := 76) DM_X7_set_73 rfl kM_X7_unfound lRX7_78 sh_0 rfl rfl (by decide) (Nat.le_of_ble_eq_true rfl) rfl (k_X7_unfound  (fun μ6 e6 => ⟨_, rfl, ?_⟩))
        replace h := h μ6 e6
        exact r_ret (v := some (.inl (μ4 ((rw x1) + 1) x2))) ⟨DM_X7_set_76, Or.inl rfl⟩ h
      · replace h := h.2 cc
        refine r_aloadn (q := 47) DM_X7_set_46 rfl rfl ?_
        refine r_iconst (q := 48) (n := 2) DM_X7_set_47 rfl ?_
        refine r_callVi [.inl 2] (q := 51) DM_X7_set_48 rfl kM_X7_found lRX7_70 sh_0 rfl rfl (by decide) (Nat.le_of_ble_eq_true rfl) rfl (k_X7_found  (fun μ7 e7 => ⟨_, rfl, ?_⟩))
        replace h := h μ7 e7
        exact r_ret (v := some (.inl (-1000010 - 2))) ⟨DM_X7_set_51, Or.inl rfl⟩ h
    · replace h := h.2 cc
      refine r_aloadn (q := 29) DM_X7_set_28 rfl rfl ?_
      refine r_iconst (q := 30) (n := 1) DM_X7_set_29 rfl ?_
      refine r_callVi [.inl 1] (q := 33) DM_X7_set_30 rfl kM_X7_found lRX7_70 sh_0 rfl rfl (by decide) (Nat.le_of_ble_eq_true rfl) rfl (k_X7_found  (fun μ8 e8 => ⟨_, rfl, ?_⟩))
      replace h := h μ8 e8
      exact r_ret (v := some (.inl (-1000010 - 1))) ⟨DM_X7_set_33, Or.inl rfl⟩ h
  · replace h := h.2 cc
    refine r_ldc (q := 11) (n := (-1000001)) DM_X7_set_9 rfl nRX7_69 ?_
    exact r_ret (v := some (.inl (-1000001))) ⟨DM_X7_set_11, Or.inl rfl⟩ h
set_option maxRecDepth 20000 in
theorem s_X7_copy {E : Ex} {μ : Mem} {Q : Option Vl → Mem → Prop} {x1 x2 x3 x4 x5 : Int}  (ix1 : inR x1) (ix2 : inR x2) (ix3 : inR x3) (ix4 : inR x4) (ix5 : inR x5) (h : (¬ (0 ≤ x1 ∧ x1 < 8) → Q (some (.inl (-1000001))) μ) ∧ ((0 ≤ x1 ∧ x1 < 8) → ((0 ≤ x3 ∧ x3 < 8) → (0 ≤ x1 ∧ x1 < 8) ∧ (roS (rw x1) → (0 ≤ x3 ∧ x3 < 8) ∧ (roS (rw x3) → inR (μ (rw x1) 2) ∧ ((μ (rw x1) 2 = -1) → ∀ μ4 : Mem, μ4 = up μ 0 10 1 → Q (some (.inl (-1000010 - 1))) μ4) ∧ (¬ (μ (rw x1) 2 = -1) → inR (μ (rw x3) 2) ∧ (¬ (μ (rw x3) 2 = -1) → inR (μ (rw x1) 1) ∧ inR (μ (rw x3) 1) ∧ ((μ (rw x1) 1) = (μ (rw x3) 1) → (0 ≤ μ (rw x1) 2 ∧ μ (rw x1) 2 ≤ 40) ∧ (¬ (0 ≤ x5 ∧ 0 ≤ x2 ∧ x2 + x5 ≤ μ (rw x1) 2) → ∀ μ9 : Mem, μ9 = up μ 0 10 2 → Q (some (.inl (-1000010 - 2))) μ9) ∧ ((0 ≤ x5 ∧ 0 ≤ x2 ∧ x2 + x5 ≤ μ (rw x1) 2) → (0 ≤ μ (rw x3) 2 ∧ μ (rw x3) 2 ≤ 40) ∧ ((0 ≤ x5 ∧ 0 ≤ x4 ∧ x4 + x5 ≤ μ (rw x3) 2) → ((0 : Int) ≤ x2 ∧ (0 : Int) ≤ x4 ∧ (0 : Int) ≤ x5 ∧ x2 + x5 ≤ 40 ∧ x4 + x5 ≤ 40) ∧ ∀ μ11 : Mem, μ11 = cpm μ ((rw x1) + 1) x2 ((rw x3) + 1) x4 x5 → ∀ μ12 : Mem, μ12 = up μ11 0 10 0 → Q (some (.inl x5)) μ12) ∧ (¬ (0 ≤ x5 ∧ 0 ≤ x4 ∧ x4 + x5 ≤ μ (rw x3) 2) → ∀ μ13 : Mem, μ13 = up μ 0 10 2 → Q (some (.inl (-1000010 - 2))) μ13))) ∧ (¬ (μ (rw x1) 1) = (μ (rw x3) 1) → ∀ μ14 : Mem, μ14 = up μ 0 10 5 → Q (some (.inl (-1000010 - 5))) μ14)) ∧ ((μ (rw x3) 2 = -1) → ∀ μ15 : Mem, μ15 = up μ 0 10 1 → Q (some (.inl (-1000010 - 1))) μ15))))) ∧ (¬ (0 ≤ x3 ∧ x3 < 8) → Q (some (.inl (-1000001))) μ))) : Cl E 1 M_X7_copy [.inr 0, .inl x1, .inl x2, .inl x3, .inl x4, .inl x5] μ Q := by
  show Gg E 1 M_X7_copy 0 [some (.inr 0), some (.inl x1), some (.inl x2), some (.inl x3), some (.inl x4), some (.inl x5), none, none] [] μ Q
  refine r_iloadn (q := 1) DM_X7_copy_0 rfl rfl ?_
  refine r_bipush (q := 3) (n := 8) DM_X7_copy_1 rfl (by decide) ?_
  refine r_callSi [.inl x1, .inl 8] (q := 6) DM_X7_copy_3 rfl kM_X7_isIn lRX7_65 rfl (by decide) (Nat.le_of_ble_eq_true rfl) rfl (k_X7_isIn ix1 (by decide) ⟨_, rfl, ?_⟩)
  refine r_bieq (q := 9) (t := 18) DM_X7_copy_6 rfl (by decide) ⟨fun cc => ?_, fun cc => ?_⟩
  · replace h := h.1 cc
    refine r_ldc (q := 20) (n := (-1000001)) DM_X7_copy_18 rfl nRX7_69 ?_
    exact r_ret (v := some (.inl (-1000001))) ⟨DM_X7_copy_20, Or.inl rfl⟩ h
  · replace h := h.2 cc
    refine r_iloadn (q := 10) DM_X7_copy_9 rfl rfl ?_
    refine r_bipush (q := 12) (n := 8) DM_X7_copy_10 rfl (by decide) ?_
    refine r_callSi [.inl x3, .inl 8] (q := 15) DM_X7_copy_12 rfl kM_X7_isIn lRX7_65 rfl (by decide) (Nat.le_of_ble_eq_true rfl) rfl (k_X7_isIn ix3 (by decide) ⟨_, rfl, ?_⟩)
    refine r_bine (q := 18) (t := 21) DM_X7_copy_15 rfl (by decide) ⟨fun cc => ?_, fun cc => ?_⟩
    · replace h := h.1 cc
      refine r_aloadn (q := 22) DM_X7_copy_21 rfl rfl ?_
      refine r_getR (q := 25) (r := 1) DM_X7_copy_22 rfl fRX7_11 sh_0 rfl ?_
      refine r_iloadn (q := 26) DM_X7_copy_25 rfl rfl ?_
      refine v_aaR (q := 27) DM_X7_copy_26 rfl ⟨h.1, fun w1 => ?_⟩
      replace h := h.2 w1
      refine v_astore (q := 29) (ls' := [some (.inr 0), some (.inl x1), some (.inl x2), some (.inl x3), some (.inl x4), some (.inl x5), some (.inr (rw x1)), none]) DM_X7_copy_27 rfl (by decide) rfl ?_
      refine r_aloadn (q := 30) DM_X7_copy_29 rfl rfl ?_
      refine r_getR (q := 33) (r := 1) DM_X7_copy_30 rfl fRX7_11 sh_0 rfl ?_
      refine r_iloadn (q := 34) DM_X7_copy_33 rfl rfl ?_
      refine v_aaR (q := 35) DM_X7_copy_34 rfl ⟨h.1, fun w2 => ?_⟩
      replace h := h.2 w2
      refine v_astore (q := 37) (ls' := [some (.inr 0), some (.inl x1), some (.inl x2), some (.inl x3), some (.inl x4), some (.inl x5), some (.inr (rw x1)), some (.inr (rw x3))]) DM_X7_copy_35 rfl (by decide) rfl ?_
      refine r_aload (q := 39) DM_X7_copy_37 rfl rfl ?_
      have i3 := h.1
      replace h := h.2
      refine r_callVi [] (q := 42) DM_X7_copy_39 rfl kM_X6_isMissing lRX7_81 (ro0 w1) rfl rfl (by decide) (Nat.le_of_ble_eq_true rfl) rfl (k_X6_isMissing w1 i3 ⟨_, rfl, ?_⟩)
      refine r_bine (q := 45) (t := 53) DM_X7_copy_42 rfl (by decide) ⟨fun cc => ?_, fun cc => ?_⟩
      · replace h := h.1 cc
        refine r_aloadn (q := 54) DM_X7_copy_53 rfl rfl ?_
        refine r_iconst (q := 55) (n := 1) DM_X7_copy_54 rfl ?_
        refine r_callVi [.inl 1] (q := 58) DM_X7_copy_55 rfl kM_X7_found lRX7_70 sh_0 rfl rfl (by decide) (Nat.le_of_ble_eq_true rfl) rfl (k_X7_found  (fun μ4 e4 => ⟨_, rfl, ?_⟩))
        replace h := h μ4 e4
        exact r_ret (v := some (.inl (-1000010 - 1))) ⟨DM_X7_copy_58, Or.inl rfl⟩ h
      · replace h := h.2 cc
        refine r_aload (q := 47) DM_X7_copy_45 rfl rfl ?_
        have i5 := h.1
        replace h := h.2
        refine r_callVi [] (q := 50) DM_X7_copy_47 rfl kM_X6_isMissing lRX7_81 (ro0 w2) rfl rfl (by decide) (Nat.le_of_ble_eq_true rfl) rfl (k_X6_isMissing w2 i5 ⟨_, rfl, ?_⟩)
        refine r_bieq (q := 53) (t := 59) DM_X7_copy_50 rfl (by decide) ⟨fun cc => ?_, fun cc => ?_⟩
        · replace h := h.1 cc
          refine r_aload (q := 61) DM_X7_copy_59 rfl rfl ?_
          refine v_getI (q := 64) (ji := 1) DM_X7_copy_61 rfl fRX7_96 (ro0 w1) rfl rfl ?_
          refine r_aload (q := 66) DM_X7_copy_64 rfl rfl ?_
          refine v_getI (q := 69) (ji := 1) DM_X7_copy_66 rfl fRX7_96 (ro0 w2) rfl rfl ?_
          have i6 := h.1
          replace h := h.2
          have i7 := h.1
          replace h := h.2
          refine r_iceq (q := 72) (t := 78) DM_X7_copy_69 rfl (by decide) ⟨⟨i6, i7⟩, fun cc => ?_, fun cc => ?_⟩
          · replace h := h.1 cc
            refine r_aload (q := 80) DM_X7_copy_78 rfl rfl ?_
            refine r_iloadn (q := 81) DM_X7_copy_80 rfl rfl ?_
            refine r_iload (q := 83) DM_X7_copy_81 rfl rfl ?_
            have i8 := h.1
            replace h := h.2
            refine r_callVi [.inl x2, .inl x5] (q := 86) DM_X7_copy_83 rfl kM_X6_hasRange lRX7_99 (ro0 w1) rfl rfl (by decide) (Nat.le_of_ble_eq_true rfl) rfl (k_X6_hasRange w1 ix2 ix5 i8 ⟨_, rfl, ?_⟩)
            refine r_bieq (q := 89) (t := 101) DM_X7_copy_86 rfl (by decide) ⟨fun cc => ?_, fun cc => ?_⟩
            · replace h := h.1 cc
              refine r_aloadn (q := 102) DM_X7_copy_101 rfl rfl ?_
              refine r_iconst (q := 103) (n := 2) DM_X7_copy_102 rfl ?_
              refine r_callVi [.inl 2] (q := 106) DM_X7_copy_103 rfl kM_X7_found lRX7_70 sh_0 rfl rfl (by decide) (Nat.le_of_ble_eq_true rfl) rfl (k_X7_found  (fun μ9 e9 => ⟨_, rfl, ?_⟩))
              replace h := h μ9 e9
              exact r_ret (v := some (.inl (-1000010 - 2))) ⟨DM_X7_copy_106, Or.inl rfl⟩ h
            · replace h := h.2 cc
              refine r_aload (q := 91) DM_X7_copy_89 rfl rfl ?_
              refine r_iload (q := 93) DM_X7_copy_91 rfl rfl ?_
              refine r_iload (q := 95) DM_X7_copy_93 rfl rfl ?_
              have i10 := h.1
              replace h := h.2
              refine r_callVi [.inl x4, .inl x5] (q := 98) DM_X7_copy_95 rfl kM_X6_hasRange lRX7_99 (ro0 w2) rfl rfl (by decide) (Nat.le_of_ble_eq_true rfl) rfl (k_X6_hasRange w2 ix4 ix5 i10 ⟨_, rfl, ?_⟩)
              refine r_bine (q := 101) (t := 107) DM_X7_copy_98 rfl (by decide) ⟨fun cc => ?_, fun cc => ?_⟩
              · replace h := h.1 cc
                refine r_aload (q := 109) DM_X7_copy_107 rfl rfl ?_
                refine r_getR (q := 112) (r := (rw x1) + 1) DM_X7_copy_109 rfl fRX7_89 (ro0 w1) rfl ?_
                refine r_iloadn (q := 113) DM_X7_copy_112 rfl rfl ?_
                refine r_aload (q := 115) DM_X7_copy_113 rfl rfl ?_
                refine r_getR (q := 118) (r := (rw x3) + 1) DM_X7_copy_115 rfl fRX7_89 (ro0 w2) rfl ?_
                refine r_iload (q := 120) DM_X7_copy_118 rfl rfl ?_
                refine r_iload (q := 122) DM_X7_copy_120 rfl rfl ?_
                refine v_acpy (q := 125) DM_X7_copy_122 rfl lRX7_102 acp_na acp_st acp_in (ro1 w1) (ro1 w2) ⟨by decide, (by decide)⟩ ⟨by decide, (by decide)⟩ (by decide) (Nat.le_of_ble_eq_true rfl) ⟨h.1, fun μ11 e11 => ?_⟩
                replace h := h.2 μ11 e11
                refine r_aloadn (q := 126) DM_X7_copy_125 rfl rfl ?_
                refine r_iload (q := 128) DM_X7_copy_126 rfl rfl ?_
                refine r_callVi [.inl x5] (q := 131) DM_X7_copy_128 rfl kM_X7_unfound lRX7_78 sh_0 rfl rfl (by decide) (Nat.le_of_ble_eq_true rfl) rfl (k_X7_unfound  (fun μ12 e12 => ⟨_, rfl, ?_⟩))
                replace h := h μ12 e12
                exact r_ret (v := some (.inl x5)) ⟨DM_X7_copy_131, Or.inl rfl⟩ h
              · replace h := h.2 cc
                refine r_aloadn (q := 102) DM_X7_copy_101 rfl rfl ?_
                refine r_iconst (q := 103) (n := 2) DM_X7_copy_102 rfl ?_
                refine r_callVi [.inl 2] (q := 106) DM_X7_copy_103 rfl kM_X7_found lRX7_70 sh_0 rfl rfl (by decide) (Nat.le_of_ble_eq_true rfl) rfl (k_X7_found  (fun μ13 e13 => ⟨_, rfl, ?_⟩))
                replace h := h μ13 e13
                exact r_ret (v := some (.inl (-1000010 - 2))) ⟨DM_X7_copy_106, Or.inl rfl⟩ h
          · replace h := h.2 cc
            refine r_aloadn (q := 73) DM_X7_copy_72 rfl rfl ?_
            refine r_iconst (q := 74) (n := 5) DM_X7_copy_73 rfl ?_
            refine r_callVi [.inl 5] (q := 77) DM_X7_copy_74 rfl kM_X7_found lRX7_70 sh_0 rfl rfl (by decide) (Nat.le_of_ble_eq_true rfl) rfl (k_X7_found  (fun μ14 e14 => ⟨_, rfl, ?_⟩))
            replace h := h μ14 e14
            exact r_ret (v := some (.inl (-1000010 - 5))) ⟨DM_X7_copy_77, Or.inl rfl⟩ h
        · replace h := h.2 cc
          refine r_aloadn (q := 54) DM_X7_copy_53 rfl rfl ?_
          refine r_iconst (q := 55) (n := 1) DM_X7_copy_54 rfl ?_
          refine r_callVi [.inl 1] (q := 58) DM_X7_copy_55 rfl kM_X7_found lRX7_70 sh_0 rfl rfl (by decide) (Nat.le_of_ble_eq_true rfl) rfl (k_X7_found  (fun μ15 e15 => ⟨_, rfl, ?_⟩))
          replace h := h μ15 e15
          exact r_ret (v := some (.inl (-1000010 - 1))) ⟨DM_X7_copy_58, Or.inl rfl⟩ h
    · replace h := h.2 cc
      refine r_ldc (q := 20) (n := (-1000001)) DM_X7_copy_18 rfl nRX7_69 ?_
      exact r_ret (v := some (.inl (-1000001))) ⟨DM_X7_copy_20, Or.inl rfl⟩ h
set_option maxRecDepth 20000 in
theorem s_X7_drop {E : Ex} {μ : Mem} {Q : Option Vl → Mem → Prop} {x1 : Int}  (ix1 : inR x1) (h : ((0 ≤ x1 ∧ x1 < 8) → (0 ≤ x1 ∧ x1 < 8) ∧ (roS (rw x1) → inR (μ (rw x1) 2) ∧ (¬ (μ (rw x1) 2 = -1) → ∀ μ3 : Mem, μ3 = up μ (rw x1) 2 (-1) → ∀ μ4 : Mem, μ4 = up μ3 0 10 0 → Q (some (.inl (μ (rw x1) 2))) μ4) ∧ ((μ (rw x1) 2 = -1) → ∀ μ5 : Mem, μ5 = up μ 0 10 1 → Q (some (.inl (-1000010 - 1))) μ5))) ∧ (¬ (0 ≤ x1 ∧ x1 < 8) → Q (some (.inl (-1000001))) μ)) : Cl E 1 M_X7_drop [.inr 0, .inl x1] μ Q := by
  show Gg E 1 M_X7_drop 0 [some (.inr 0), some (.inl x1), none, none] [] μ Q
  refine r_iloadn (q := 1) DM_X7_drop_0 rfl rfl ?_
  refine r_bipush (q := 3) (n := 8) DM_X7_drop_1 rfl (by decide) ?_
  refine r_callSi [.inl x1, .inl 8] (q := 6) DM_X7_drop_3 rfl kM_X7_isIn lRX7_65 rfl (by decide) (Nat.le_of_ble_eq_true rfl) rfl (k_X7_isIn ix1 (by decide) ⟨_, rfl, ?_⟩)
  refine r_bine (q := 9) (t := 12) DM_X7_drop_6 rfl (by decide) ⟨fun cc => ?_, fun cc => ?_⟩
  · replace h := h.1 cc
    refine r_aloadn (q := 13) DM_X7_drop_12 rfl rfl ?_
    refine r_getR (q := 16) (r := 1) DM_X7_drop_13 rfl fRX7_11 sh_0 rfl ?_
    refine r_iloadn (q := 17) DM_X7_drop_16 rfl rfl ?_
    refine v_aaR (q := 18) DM_X7_drop_17 rfl ⟨h.1, fun w1 => ?_⟩
    replace h := h.2 w1
    refine v_astoren (q := 19) (ls' := [some (.inr 0), some (.inl x1), some (.inr (rw x1)), none]) DM_X7_drop_18 rfl (by decide) rfl ?_
    refine r_aloadn (q := 20) DM_X7_drop_19 rfl rfl ?_
    have i2 := h.1
    replace h := h.2
    refine r_callVi [] (q := 23) DM_X7_drop_20 rfl kM_X6_isMissing lRX7_81 (ro0 w1) rfl rfl (by decide) (Nat.le_of_ble_eq_true rfl) rfl (k_X6_isMissing w1 i2 ⟨_, rfl, ?_⟩)
    refine r_bieq (q := 26) (t := 32) DM_X7_drop_23 rfl (by decide) ⟨fun cc => ?_, fun cc => ?_⟩
    · replace h := h.1 cc
      refine r_aloadn (q := 33) DM_X7_drop_32 rfl rfl ?_
      refine v_getI (q := 36) (ji := 2) DM_X7_drop_33 rfl fRX7_85 (ro0 w1) rfl rfl ?_
      refine v_istoren (q := 37) (ls' := [some (.inr 0), some (.inl x1), some (.inr (rw x1)), some (.inl (μ (rw x1) 2))]) DM_X7_drop_36 rfl (by decide) rfl ?_
      refine r_aloadn (q := 38) DM_X7_drop_37 rfl rfl ?_
      refine r_iconst (q := 39) (n := (-1)) DM_X7_drop_38 rfl ?_
      refine v_put (q := 42) (ji := 2) DM_X7_drop_39 rfl pfRX7_85 (ro0 w1) rfl rfl (Or.inl rfl) (fun μ3 e3 => ?_)
      replace h := h μ3 e3
      refine r_aloadn (q := 43) DM_X7_drop_42 rfl rfl ?_
      refine r_iloadn (q := 44) DM_X7_drop_43 rfl rfl ?_
      refine r_callVi [.inl (μ (rw x1) 2)] (q := 47) DM_X7_drop_44 rfl kM_X7_unfound lRX7_78 sh_0 rfl rfl (by decide) (Nat.le_of_ble_eq_true rfl) rfl (k_X7_unfound  (fun μ4 e4 => ⟨_, rfl, ?_⟩))
      replace h := h μ4 e4
      exact r_ret (v := some (.inl (μ (rw x1) 2))) ⟨DM_X7_drop_47, Or.inl rfl⟩ h
    · replace h := h.2 cc
      refine r_aloadn (q := 27) DM_X7_drop_26 rfl rfl ?_
      refine r_iconst (q := 28) (n := 1) DM_X7_drop_27 rfl ?_
      refine r_callVi [.inl 1] (q := 31) DM_X7_drop_28 rfl kM_X7_found lRX7_70 sh_0 rfl rfl (by decide) (Nat.le_of_ble_eq_true rfl) rfl (k_X7_found  (fun μ5 e5 => ⟨_, rfl, ?_⟩))
      replace h := h μ5 e5
      exact r_ret (v := some (.inl (-1000010 - 1))) ⟨DM_X7_drop_31, Or.inl rfl⟩ h
  · replace h := h.2 cc
    refine r_ldc (q := 11) (n := (-1000001)) DM_X7_drop_9 rfl nRX7_69 ?_
    exact r_ret (v := some (.inl (-1000001))) ⟨DM_X7_drop_11, Or.inl rfl⟩ h
set_option maxRecDepth 20000 in
theorem s_X7_feed {E : Ex} {μ : Mem} {Q : Option Vl → Mem → Prop} {x1 : Int}  (ix1 : inR x1) (h : ((0 ≤ x1 ∧ x1 < 256) → inR (μ 2 1) ∧ ((μ 2 1) < 120 → Cl E 0 M_X4_addByte [.inr 2, .inl x1] μ (fun vv μ2 => vv = none ∧ Q (some (.inl (μ2 2 1))) μ2)) ∧ (¬ (μ 2 1) < 120 → Q (some (.inl (-1000003))) μ)) ∧ (¬ (0 ≤ x1 ∧ x1 < 256) → Q (some (.inl (-1000001))) μ)) : Cl E 1 M_X7_feed [.inr 0, .inl x1] μ Q := by
  show Gg E 1 M_X7_feed 0 [some (.inr 0), some (.inl x1)] [] μ Q
  refine r_iloadn (q := 1) DM_X7_feed_0 rfl rfl ?_
  refine r_sipush (q := 4) (n := 256) DM_X7_feed_1 rfl (by decide) ?_
  refine r_callSi [.inl x1, .inl 256] (q := 7) DM_X7_feed_4 rfl kM_X7_isIn lRX7_65 rfl (by decide) (Nat.le_of_ble_eq_true rfl) rfl (k_X7_isIn ix1 (by decide) ⟨_, rfl, ?_⟩)
  refine r_bine (q := 10) (t := 13) DM_X7_feed_7 rfl (by decide) ⟨fun cc => ?_, fun cc => ?_⟩
  · replace h := h.1 cc
    refine r_aloadn (q := 14) DM_X7_feed_13 rfl rfl ?_
    refine r_getR (q := 17) (r := 2) DM_X7_feed_14 rfl fRX7_18 sh_0 rfl ?_
    refine v_getI (q := 20) (ji := 1) DM_X7_feed_17 rfl fRX7_108 sh_2 rfl rfl ?_
    refine r_bipush (q := 22) (n := 120) DM_X7_feed_20 rfl (by decide) ?_
    have i1 := h.1
    replace h := h.2
    refine r_iclt (q := 25) (t := 28) DM_X7_feed_22 rfl (by decide) ⟨⟨i1, (by decide)⟩, fun cc => ?_, fun cc => ?_⟩
    · replace h := h.1 cc
      refine r_aloadn (q := 29) DM_X7_feed_28 rfl rfl ?_
      refine r_getR (q := 32) (r := 2) DM_X7_feed_29 rfl fRX7_18 sh_0 rfl ?_
      refine r_iloadn (q := 33) DM_X7_feed_32 rfl rfl ?_
      refine r_callVv [.inl x1] (q := 36) DM_X7_feed_33 rfl kM_X4_addByte lRX7_112 sh_2 rfl rfl (by decide) (Nat.le_of_ble_eq_true rfl) rfl (Cl.imp h (fun vv μ2 h => ?_))
      obtain ⟨hv, h⟩ := h
      refine ⟨hv, ?_⟩
      refine r_aloadn (q := 37) DM_X7_feed_36 rfl rfl ?_
      refine r_getR (q := 40) (r := 2) DM_X7_feed_37 rfl fRX7_18 sh_0 rfl ?_
      refine v_getI (q := 43) (ji := 1) DM_X7_feed_40 rfl fRX7_108 sh_2 rfl rfl ?_
      exact r_ret (v := some (.inl (μ2 2 1))) ⟨DM_X7_feed_43, Or.inl rfl⟩ h
    · replace h := h.2 cc
      refine r_ldc (q := 27) (n := (-1000003)) DM_X7_feed_25 rfl nRX7_111 ?_
      exact r_ret (v := some (.inl (-1000003))) ⟨DM_X7_feed_27, Or.inl rfl⟩ h
  · replace h := h.2 cc
    refine r_ldc (q := 12) (n := (-1000001)) DM_X7_feed_10 rfl nRX7_69 ?_
    exact r_ret (v := some (.inl (-1000001))) ⟨DM_X7_feed_12, Or.inl rfl⟩ h
set_option maxRecDepth 20000 in
theorem s_X7_fault {E : Ex} {μ : Mem} {Q : Option Vl → Mem → Prop}  (h : Q (some (.inl (μ 0 9))) μ) : Cl E 0 M_X7_fault [.inr 0] μ Q := by
  show Gg E 0 M_X7_fault 0 [some (.inr 0)] [] μ Q
  refine r_aloadn (q := 1) DM_X7_fault_0 rfl rfl ?_
  refine v_getI (q := 4) (ji := 9) DM_X7_fault_1 rfl fRX7_123 sh_0 rfl rfl ?_
  exact r_ret (v := some (.inl (μ 0 9))) ⟨DM_X7_fault_4, Or.inl rfl⟩ h
set_option maxRecDepth 20000 in
theorem s_X7_status {E : Ex} {μ : Mem} {Q : Option Vl → Mem → Prop}  (h : Q (some (.inl (μ 0 10))) μ) : Cl E 0 M_X7_status [.inr 0] μ Q := by
  show Gg E 0 M_X7_status 0 [some (.inr 0)] [] μ Q
  refine r_aloadn (q := 1) DM_X7_status_0 rfl rfl ?_
  refine v_getI (q := 4) (ji := 10) DM_X7_status_1 rfl fRX7_280 sh_0 rfl rfl ?_
  exact r_ret (v := some (.inl (μ 0 10))) ⟨DM_X7_status_4, Or.inl rfl⟩ h
set_option maxRecDepth 20000 in
theorem s_X7_kind {E : Ex} {μ : Mem} {Q : Option Vl → Mem → Prop} {x1 : Int}  (ix1 : inR x1) (h : inR (μ 4 1) ∧ (¬ (0 ≤ x1 ∧ x1 < μ 4 1) → Q (some (.inl (-1000001))) μ) ∧ ((0 ≤ x1 ∧ x1 < μ 4 1) → (0 ≤ x1 ∧ x1 < 6) ∧ Q (some (.inl (μ (4 + 3) x1))) μ)) : Cl E 2 M_X7_kind [.inr 0, .inl x1] μ Q := by
  show Gg E 2 M_X7_kind 0 [some (.inr 0), some (.inl x1)] [] μ Q
  refine r_aloadn (q := 1) DM_X7_kind_0 rfl rfl ?_
  refine r_iloadn (q := 2) DM_X7_kind_1 rfl rfl ?_
  have i1 := h.1
  replace h := h.2
  refine r_callVi [.inl x1] (q := 5) DM_X7_kind_2 rfl kM_X7_isPerson lRX7_187 sh_0 rfl rfl (by decide) (Nat.le_of_ble_eq_true rfl) rfl (k_X7_isPerson ix1 i1 ⟨_, rfl, ?_⟩)
  refine r_bieq (q := 8) (t := 20) DM_X7_kind_5 rfl (by decide) ⟨fun cc => ?_, fun cc => ?_⟩
  · replace h := h.1 cc
    refine r_ldc (q := 22) (n := (-1000001)) DM_X7_kind_20 rfl nRX7_69 ?_
    exact r_ret (v := some (.inl (-1000001))) ⟨DM_X7_kind_22, Or.inl rfl⟩ h
  · replace h := h.2 cc
    refine r_aloadn (q := 9) DM_X7_kind_8 rfl rfl ?_
    refine r_getR (q := 12) (r := 4) DM_X7_kind_9 rfl fRX7_25 sh_0 rfl ?_
    refine r_getR (q := 15) (r := 4 + 3) DM_X7_kind_12 rfl fRX7_164 (co0 cK_4) rfl ?_
    refine r_iloadn (q := 16) DM_X7_kind_15 rfl rfl ?_
    refine r_iald (q := 17) DM_X7_kind_16 rfl (co3 cK_4) (by decide) ⟨h.1, ?_⟩
    have i2 := h.1
    replace h := h.2
    refine r_goto (q := 22) DM_X7_kind_17 (by decide) ?_
    exact r_ret (v := some (.inl (μ (4 + 3) x1))) ⟨DM_X7_kind_22, Or.inl rfl⟩ h
set_option maxRecDepth 20000 in
theorem s_X7_as {E : Ex} {μ : Mem} {Q : Option Vl → Mem → Prop} {x1 x2 : Int}  (ix1 : inR x1) (ix2 : inR x2) (h : inR (μ 4 1) ∧ (¬ (0 ≤ x1 ∧ x1 < μ 4 1) → Q (some (.inl (-1000001))) μ) ∧ ((0 ≤ x1 ∧ x1 < μ 4 1) → ((0 ≤ x2 ∧ x2 < 6) → (0 ≤ x1 ∧ x1 < 6) ∧ (RoOk E) ∧ (1 ≤ (μ (4 + 3) x1) ∧ (μ (4 + 3) x1) ≤ 5) ∧ (0 ≤ x2 ∧ x2 < 6) ∧ ((isK (μ (4 + 3) x1) x2) = false → ∀ μ6 : Mem, μ6 = up μ 0 10 3 → Q (some (.inl (-1000010 - 3))) μ6) ∧ ((isK (μ (4 + 3) x1) x2) = true → ∀ μ7 : Mem, μ7 = up μ 0 10 0 → Q (some (.inl x1)) μ7)) ∧ (¬ (0 ≤ x2 ∧ x2 < 6) → Q (some (.inl (-1000001))) μ))) : Cl E 2 M_X7_as [.inr 0, .inl x1, .inl x2] μ Q := by
  show Gg E 2 M_X7_as 0 [some (.inr 0), some (.inl x1), some (.inl x2)] [] μ Q
  refine r_aloadn (q := 1) DM_X7_as_0 rfl rfl ?_
  refine r_iloadn (q := 2) DM_X7_as_1 rfl rfl ?_
  have i1 := h.1
  replace h := h.2
  refine r_callVi [.inl x1] (q := 5) DM_X7_as_2 rfl kM_X7_isPerson lRX7_187 sh_0 rfl rfl (by decide) (Nat.le_of_ble_eq_true rfl) rfl (k_X7_isPerson ix1 i1 ⟨_, rfl, ?_⟩)
  refine r_bieq (q := 8) (t := 17) DM_X7_as_5 rfl (by decide) ⟨fun cc => ?_, fun cc => ?_⟩
  · replace h := h.1 cc
    refine r_ldc (q := 19) (n := (-1000001)) DM_X7_as_17 rfl nRX7_69 ?_
    exact r_ret (v := some (.inl (-1000001))) ⟨DM_X7_as_19, Or.inl rfl⟩ h
  · replace h := h.2 cc
    refine r_iloadn (q := 9) DM_X7_as_8 rfl rfl ?_
    refine r_bipush (q := 11) (n := 6) DM_X7_as_9 rfl (by decide) ?_
    refine r_callSi [.inl x2, .inl 6] (q := 14) DM_X7_as_11 rfl kM_X7_isIn lRX7_65 rfl (by decide) (Nat.le_of_ble_eq_true rfl) rfl (k_X7_isIn ix2 (by decide) ⟨_, rfl, ?_⟩)
    refine r_bine (q := 17) (t := 20) DM_X7_as_14 rfl (by decide) ⟨fun cc => ?_, fun cc => ?_⟩
    · replace h := h.1 cc
      refine r_aloadn (q := 21) DM_X7_as_20 rfl rfl ?_
      refine r_getR (q := 24) (r := 4) DM_X7_as_21 rfl fRX7_25 sh_0 rfl ?_
      refine r_getR (q := 27) (r := 4 + 3) DM_X7_as_24 rfl fRX7_164 (co0 cK_4) rfl ?_
      refine r_iloadn (q := 28) DM_X7_as_27 rfl rfl ?_
      refine r_iald (q := 29) DM_X7_as_28 rfl (co3 cK_4) (by decide) ⟨h.1, ?_⟩
      have i2 := h.1
      replace h := h.2
      refine r_iloadn (q := 30) DM_X7_as_29 rfl rfl ?_
      have i3 := h.1
      replace h := h.2
      have i4 := h.1
      replace h := h.2
      have i5 := h.1
      replace h := h.2
      refine r_callSi [.inl (μ (4 + 3) x1), .inl x2] (q := 33) DM_X7_as_30 rfl kM_X7_isOfKind lRX7_258 rfl (by decide) (Nat.le_of_ble_eq_true rfl) rfl (k_X7_isOfKind i3 i4 i5 ⟨_, rfl, ?_⟩)
      refine r_bbeq (q := 36) (t := 44) DM_X7_as_33 rfl (by decide) ⟨fun cc => ?_, fun cc => ?_⟩
      · replace h := h.1 cc
        refine r_aloadn (q := 45) DM_X7_as_44 rfl rfl ?_
        refine r_iconst (q := 46) (n := 3) DM_X7_as_45 rfl ?_
        refine r_callVi [.inl 3] (q := 49) DM_X7_as_46 rfl kM_X7_found lRX7_70 sh_0 rfl rfl (by decide) (Nat.le_of_ble_eq_true rfl) rfl (k_X7_found  (fun μ6 e6 => ⟨_, rfl, ?_⟩))
        replace h := h μ6 e6
        exact r_ret (v := some (.inl (-1000010 - 3))) ⟨DM_X7_as_49, Or.inl rfl⟩ h
      · replace h := h.2 cc
        refine r_aloadn (q := 37) DM_X7_as_36 rfl rfl ?_
        refine r_iloadn (q := 38) DM_X7_as_37 rfl rfl ?_
        refine r_callVi [.inl x1] (q := 41) DM_X7_as_38 rfl kM_X7_unfound lRX7_78 sh_0 rfl rfl (by decide) (Nat.le_of_ble_eq_true rfl) rfl (k_X7_unfound  (fun μ7 e7 => ⟨_, rfl, ?_⟩))
        replace h := h μ7 e7
        refine r_goto (q := 49) DM_X7_as_41 (by decide) ?_
        exact r_ret (v := some (.inl x1)) ⟨DM_X7_as_49, Or.inl rfl⟩ h
    · replace h := h.2 cc
      refine r_ldc (q := 19) (n := (-1000001)) DM_X7_as_17 rfl nRX7_69 ?_
      exact r_ret (v := some (.inl (-1000001))) ⟨DM_X7_as_19, Or.inl rfl⟩ h
set_option maxRecDepth 20000 in
theorem s_X7_trace {E : Ex} {μ : Mem} {Q : Option Vl → Mem → Prop} {x1 : Int}  (ix1 : inR x1) (h : inR (μ 45 1) ∧ (¬ (0 ≤ x1 ∧ x1 < (μ 45 1)) → Q (some (.inl (-1000000))) μ) ∧ ((0 ≤ x1 ∧ x1 < (μ 45 1)) → (0 ≤ x1 ∧ x1 < 16) ∧ Q (some (.inl (μ 46 x1))) μ)) : Cl E 1 M_X7_trace [.inr 0, .inl x1] μ Q := by
  show Gg E 1 M_X7_trace 0 [some (.inr 0), some (.inl x1)] [] μ Q
  refine r_iloadn (q := 1) DM_X7_trace_0 rfl rfl ?_
  refine r_aloadn (q := 2) DM_X7_trace_1 rfl rfl ?_
  refine r_getR (q := 5) (r := 45) DM_X7_trace_2 rfl fRX7_60 sh_0 rfl ?_
  refine v_getI (q := 8) (ji := 1) DM_X7_trace_5 rfl fRX7_265 sh_45 rfl rfl ?_
  have i1 := h.1
  replace h := h.2
  refine r_callSi [.inl x1, .inl (μ 45 1)] (q := 11) DM_X7_trace_8 rfl kM_X7_isIn lRX7_65 rfl (by decide) (Nat.le_of_ble_eq_true rfl) rfl (k_X7_isIn ix1 i1 ⟨_, rfl, ?_⟩)
  refine r_bieq (q := 14) (t := 26) DM_X7_trace_11 rfl (by decide) ⟨fun cc => ?_, fun cc => ?_⟩
  · replace h := h.1 cc
    refine r_ldc (q := 28) (n := (-1000000)) DM_X7_trace_26 rfl nRX7_209 ?_
    exact r_ret (v := some (.inl (-1000000))) ⟨DM_X7_trace_28, Or.inl rfl⟩ h
  · replace h := h.2 cc
    refine r_aloadn (q := 15) DM_X7_trace_14 rfl rfl ?_
    refine r_getR (q := 18) (r := 45) DM_X7_trace_15 rfl fRX7_60 sh_0 rfl ?_
    refine r_getR (q := 21) (r := 46) DM_X7_trace_18 rfl fRX7_268 sh_45 rfl ?_
    refine r_iloadn (q := 22) DM_X7_trace_21 rfl rfl ?_
    refine r_iald (q := 23) DM_X7_trace_22 rfl sh_46 (by decide) ⟨h.1, ?_⟩
    have i2 := h.1
    replace h := h.2
    refine r_goto (q := 28) DM_X7_trace_23 (by decide) ?_
    exact r_ret (v := some (.inl (μ 46 x1))) ⟨DM_X7_trace_28, Or.inl rfl⟩ h
set_option maxRecDepth 20000 in
theorem s_X7_name {E : Ex} {μ : Mem} {Q : Option Vl → Mem → Prop} {x1 x2 : Int}  (ix1 : inR x1) (ix2 : inR x2) (h : Cl E 2 M_X7_isPlaceOfName [.inr 0, .inl x1, .inl x2] μ (fun vv μ1 => ∃ v2, vv = some (.inl (bi v2)) ∧ (v2 = false → Q (some (.inl (-1000001))) μ1) ∧ (v2 = true → (0 ≤ x1 * 4 + x2 ∧ x1 * 4 + x2 < 24) ∧ Q (some (.inl (μ1 (4 + 5) (x1 * 4 + x2)))) μ1))) : Cl E 3 M_X7_name [.inr 0, .inl x1, .inl x2] μ Q := by
  show Gg E 3 M_X7_name 0 [some (.inr 0), some (.inl x1), some (.inl x2)] [] μ Q
  refine r_aloadn (q := 1) DM_X7_name_0 rfl rfl ?_
  refine r_iloadn (q := 2) DM_X7_name_1 rfl rfl ?_
  refine r_iloadn (q := 3) DM_X7_name_2 rfl rfl ?_
  refine r_callVi [.inl x1, .inl x2] (q := 6) DM_X7_name_3 rfl kM_X7_isPlaceOfName lRX7_157 sh_0 rfl rfl (by decide) (Nat.le_of_ble_eq_true rfl) rfl (Cl.imp h (fun vv μ1 h => ?_))
  obtain ⟨v2, hv, h⟩ := h
  refine ⟨_, hv, ?_⟩
  refine r_bbeq (q := 9) (t := 21) DM_X7_name_6 rfl (by decide) ⟨fun cc => ?_, fun cc => ?_⟩
  · replace h := h.1 cc
    refine r_ldc (q := 23) (n := (-1000001)) DM_X7_name_21 rfl nRX7_69 ?_
    exact r_ret (v := some (.inl (-1000001))) ⟨DM_X7_name_23, Or.inl rfl⟩ h
  · replace h := h.2 cc
    refine r_aloadn (q := 10) DM_X7_name_9 rfl rfl ?_
    refine r_getR (q := 13) (r := 4) DM_X7_name_10 rfl fRX7_25 sh_0 rfl ?_
    refine r_iloadn (q := 14) DM_X7_name_13 rfl rfl ?_
    refine r_iloadn (q := 15) DM_X7_name_14 rfl rfl ?_
    have i3 := h.1
    replace h := h.2
    refine r_callVi [.inl x1, .inl x2] (q := 18) DM_X7_name_15 rfl kM_X2_letterOf lRX7_160 (co0 cK_4) rfl rfl (by decide) (Nat.le_of_ble_eq_true rfl) rfl (k_X2_letterOf cK_4 i3 ⟨_, rfl, ?_⟩)
    refine r_goto (q := 23) DM_X7_name_18 (by decide) ?_
    exact r_ret (v := some (.inl (μ1 (4 + 5) (x1 * 4 + x2)))) ⟨DM_X7_name_23, Or.inl rfl⟩ h
set_option maxRecDepth 20000 in
theorem s_X7_order {E : Ex} {μ : Mem} {Q : Option Vl → Mem → Prop} {x1 : Int}  (ix1 : inR x1) (h : inR (μ 4 0) ∧ ((μ 4 0) ≠ 0 → (¬ (0 ≤ x1 ∧ x1 < 8) → Q (some (.inl (-1000001))) μ) ∧ ((0 ≤ x1 ∧ x1 < 8) → (0 ≤ μ 4 3 ∧ μ 4 3 ≤ 2000000) ∧ (0 ≤ (μ 4 4) ∧ (μ 4 4) < 2147483648) ∧ (0 ≤ x1 + (cTurn (cv μ 4) (μ 4 4) 0) ∧ x1 + (cTurn (cv μ 4) (μ 4 4) 0) < 2147483648) ∧ Q (some (.inl (μ (4 + 1) ((x1 + (cTurn (cv μ 4) (μ 4 4) 0)) % 8)))) μ)) ∧ ((μ 4 0) = 0 → Q (some (.inl (-1000002))) μ)) : Cl E 1 M_X7_order [.inr 0, .inl x1] μ Q := by
  show Gg E 1 M_X7_order 0 [some (.inr 0), some (.inl x1)] [] μ Q
  refine r_aloadn (q := 1) DM_X7_order_0 rfl rfl ?_
  refine r_getR (q := 4) (r := 4) DM_X7_order_1 rfl fRX7_25 sh_0 rfl ?_
  refine v_getI (q := 7) (ji := 0) DM_X7_order_4 rfl fRX7_140 (co0 cK_4) rfl rfl ?_
  have i1 := h.1
  replace h := h.2
  refine r_ifne (q := 10) (t := 13) DM_X7_order_7 rfl (by decide) ⟨i1, fun cc => ?_, fun cc => ?_⟩
  · replace h := h.1 cc
    refine r_iloadn (q := 14) DM_X7_order_13 rfl rfl ?_
    refine r_bipush (q := 16) (n := 8) DM_X7_order_14 rfl (by decide) ?_
    refine r_callSi [.inl x1, .inl 8] (q := 19) DM_X7_order_16 rfl kM_X7_isIn lRX7_65 rfl (by decide) (Nat.le_of_ble_eq_true rfl) rfl (k_X7_isIn ix1 (by decide) ⟨_, rfl, ?_⟩)
    refine r_bieq (q := 22) (t := 48) DM_X7_order_19 rfl (by decide) ⟨fun cc => ?_, fun cc => ?_⟩
    · replace h := h.1 cc
      refine r_ldc (q := 50) (n := (-1000001)) DM_X7_order_48 rfl nRX7_69 ?_
      exact r_ret (v := some (.inl (-1000001))) ⟨DM_X7_order_50, Or.inl rfl⟩ h
    · replace h := h.2 cc
      refine r_aloadn (q := 23) DM_X7_order_22 rfl rfl ?_
      refine r_getR (q := 26) (r := 4) DM_X7_order_23 rfl fRX7_25 sh_0 rfl ?_
      refine r_iloadn (q := 27) DM_X7_order_26 rfl rfl ?_
      refine r_aloadn (q := 28) DM_X7_order_27 rfl rfl ?_
      refine r_getR (q := 31) (r := 4) DM_X7_order_28 rfl fRX7_25 sh_0 rfl ?_
      refine r_aloadn (q := 32) DM_X7_order_31 rfl rfl ?_
      refine r_getR (q := 35) (r := 4) DM_X7_order_32 rfl fRX7_25 sh_0 rfl ?_
      refine v_getI (q := 38) (ji := 4) DM_X7_order_35 rfl fRX7_145 (co0 cK_4) rfl rfl ?_
      refine r_iconst (q := 39) (n := 0) DM_X7_order_38 rfl ?_
      have i2 := h.1
      replace h := h.2
      have i3 := h.1
      replace h := h.2
      refine r_callVi [.inl (μ 4 4), .inl 0] (q := 42) DM_X7_order_39 rfl kM_X2_turnOn lRX7_210 (co0 cK_4) rfl rfl (by decide) (Nat.le_of_ble_eq_true rfl) rfl (k_X2_turnOn cK_4 i2 i3 ⟨_, rfl, ?_⟩)
      have i4 := h.1
      replace h := h.2
      refine r_callVi [.inl x1, .inl (cTurn (cv μ 4) (μ 4 4) 0)] (q := 45) DM_X7_order_42 rfl kM_X2_letterInOrder lRX7_213 (co0 cK_4) rfl rfl (by decide) (Nat.le_of_ble_eq_true rfl) rfl (k_X2_letterInOrder cK_4 i4 ⟨_, rfl, ?_⟩)
      refine r_goto (q := 50) DM_X7_order_45 (by decide) ?_
      exact r_ret (v := some (.inl (μ (4 + 1) ((x1 + (cTurn (cv μ 4) (μ 4 4) 0)) % 8)))) ⟨DM_X7_order_50, Or.inl rfl⟩ h
  · replace h := h.2 cc
    refine r_ldc (q := 12) (n := (-1000002)) DM_X7_order_10 rfl nRX7_144 ?_
    exact r_ret (v := some (.inl (-1000002))) ⟨DM_X7_order_12, Or.inl rfl⟩ h

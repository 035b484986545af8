/-! Tokens of the tape, as the class and the reference see them. -/
set_option maxRecDepth 20000 in
theorem s_X4_isFigureAt {E : Ex} {μ : Mem} {Q : Option Vl → Mem → Prop} {x1 : Int}  (h : inR x1 ∧ inR (μ 2 1) ∧ (x1 ≥ (μ 2 1) → Q (some (.inl (bi false))) μ) ∧ (¬ x1 ≥ (μ 2 1) → (0 ≤ x1 ∧ x1 < 120) ∧ inR (μ 3 x1) ∧ ((μ 3 x1) < 48 → Q (some (.inl (bi false))) μ) ∧ (¬ (μ 3 x1) < 48 → ((μ 3 x1) > 57 → Q (some (.inl (bi false))) μ) ∧ (¬ (μ 3 x1) > 57 → Q (some (.inl (bi true))) μ)))) : Cl E 0 M_X4_isFigureAt [.inr 2, .inl x1] μ Q := by
  show Gg E 0 M_X4_isFigureAt 0 [some (.inr 2), some (.inl x1)] [] μ Q
  refine r_iloadn (q := 1) DM_X4_isFigureAt_0 rfl rfl ?_
  refine r_aloadn (q := 2) DM_X4_isFigureAt_1 rfl rfl ?_
  refine v_getI (q := 5) (ji := 1) DM_X4_isFigureAt_2 rfl fRX4_15 sh_2 rfl rfl ?_
  have i1 := h.1
  replace h := h.2
  have i2 := h.1
  replace h := h.2
  refine r_icge (q := 8) (t := 34) DM_X4_isFigureAt_5 rfl (by decide) ⟨⟨i1, i2⟩, fun cc => ?_, fun cc => ?_⟩
  · replace h := h.1 cc
    refine r_iconst (q := 35) (n := 0) DM_X4_isFigureAt_34 rfl ?_
    exact r_ret (v := some (.inl 0)) ⟨DM_X4_isFigureAt_35, Or.inr ⟨rfl, Or.inl rfl⟩⟩ h
  · replace h := h.2 cc
    refine r_aloadn (q := 9) DM_X4_isFigureAt_8 rfl rfl ?_
    refine r_getR (q := 12) (r := 3) DM_X4_isFigureAt_9 rfl fRX4_9 sh_2 rfl ?_
    refine r_iloadn (q := 13) DM_X4_isFigureAt_12 rfl rfl ?_
    refine r_iald (q := 14) DM_X4_isFigureAt_13 rfl sh_3 (by decide) ⟨h.1, ?_⟩
    have i3 := h.1
    replace h := h.2
    refine r_bipush (q := 16) (n := 48) DM_X4_isFigureAt_14 rfl (by decide) ?_
    have i4 := h.1
    replace h := h.2
    refine r_iclt (q := 19) (t := 34) DM_X4_isFigureAt_16 rfl (by decide) ⟨⟨i4, (by decide)⟩, fun cc => ?_, fun cc => ?_⟩
    · replace h := h.1 cc
      refine r_iconst (q := 35) (n := 0) DM_X4_isFigureAt_34 rfl ?_
      exact r_ret (v := some (.inl 0)) ⟨DM_X4_isFigureAt_35, Or.inr ⟨rfl, Or.inl rfl⟩⟩ h
    · replace h := h.2 cc
      refine r_aloadn (q := 20) DM_X4_isFigureAt_19 rfl rfl ?_
      refine r_getR (q := 23) (r := 3) DM_X4_isFigureAt_20 rfl fRX4_9 sh_2 rfl ?_
      refine r_iloadn (q := 24) DM_X4_isFigureAt_23 rfl rfl ?_
      refine r_iald (q := 25) DM_X4_isFigureAt_24 rfl sh_3 (by decide) ⟨i3, ?_⟩
      refine r_bipush (q := 27) (n := 57) DM_X4_isFigureAt_25 rfl (by decide) ?_
      refine r_icgt (q := 30) (t := 34) DM_X4_isFigureAt_27 rfl (by decide) ⟨⟨i4, (by decide)⟩, fun cc => ?_, fun cc => ?_⟩
      · replace h := h.1 cc
        refine r_iconst (q := 35) (n := 0) DM_X4_isFigureAt_34 rfl ?_
        exact r_ret (v := some (.inl 0)) ⟨DM_X4_isFigureAt_35, Or.inr ⟨rfl, Or.inl rfl⟩⟩ h
      · replace h := h.2 cc
        refine r_iconst (q := 31) (n := 1) DM_X4_isFigureAt_30 rfl ?_
        refine r_goto (q := 35) DM_X4_isFigureAt_31 (by decide) ?_
        exact r_ret (v := some (.inl 1)) ⟨DM_X4_isFigureAt_35, Or.inr ⟨rfl, Or.inr rfl⟩⟩ h
set_option maxRecDepth 20000 in
theorem s_X4_step {E : Ex} {μ : Mem} {Q : Option Vl → Mem → Prop}  (h : ∀ μ1 : Mem, μ1 = up μ 2 5 (μ 2 4) → inR (μ1 2 4) ∧ inR (μ1 2 1) ∧ ((μ1 2 4) < (μ1 2 1) → Cl E 0 M_X4_isFigureAt [.inr 2, .inl (μ1 2 4)] μ1 (fun vv μ4 => ∃ v5, vv = some (.inl (bi v5)) ∧ (v5 = true → ∀ μ6 : Mem, μ6 = up μ4 2 7 0 → Gg E 1 M_X4_step 67 [some (.inr 2), some (.inl 0)] [] μ6 Q) ∧ (v5 = false → (0 ≤ (μ4 2 4) ∧ (μ4 2 4) < 120) ∧ ∀ μ8 : Mem, μ8 = up μ4 2 6 (μ4 3 (μ4 2 4)) → ∀ μ9 : Mem, μ9 = up μ8 2 4 ((μ8 2 4) + 1) → Q none μ9))) ∧ (¬ (μ1 2 4) < (μ1 2 1) → ∀ μ10 : Mem, μ10 = up μ1 2 6 (-1) → Q none μ10)) : Cl E 1 M_X4_step [.inr 2] μ Q := by
  show Gg E 1 M_X4_step 0 [some (.inr 2), none] [] μ Q
  refine r_aloadn (q := 1) DM_X4_step_0 rfl rfl ?_
  refine r_aloadn (q := 2) DM_X4_step_1 rfl rfl ?_
  refine v_getI (q := 5) (ji := 4) DM_X4_step_2 rfl fRX4_24 sh_2 rfl rfl ?_
  refine v_put (q := 8) (ji := 5) DM_X4_step_5 rfl pfRX4_101 sh_2 rfl rfl (Or.inl rfl) (fun μ1 e1 => ?_)
  replace h := h μ1 e1
  refine r_aloadn (q := 9) DM_X4_step_8 rfl rfl ?_
  refine v_getI (q := 12) (ji := 4) DM_X4_step_9 rfl fRX4_24 sh_2 rfl rfl ?_
  refine r_aloadn (q := 13) DM_X4_step_12 rfl rfl ?_
  refine v_getI (q := 16) (ji := 1) DM_X4_step_13 rfl fRX4_15 sh_2 rfl rfl ?_
  have i2 := h.1
  replace h := h.2
  have i3 := h.1
  replace h := h.2
  refine r_iclt (q := 19) (t := 25) DM_X4_step_16 rfl (by decide) ⟨⟨i2, i3⟩, fun cc => ?_, fun cc => ?_⟩
  · replace h := h.1 cc
    refine r_aloadn (q := 26) DM_X4_step_25 rfl rfl ?_
    refine r_aloadn (q := 27) DM_X4_step_26 rfl rfl ?_
    refine v_getI (q := 30) (ji := 4) DM_X4_step_27 rfl fRX4_24 sh_2 rfl rfl ?_
    refine r_callVi [.inl (μ1 2 4)] (q := 33) DM_X4_step_30 rfl kM_X4_isFigureAt lRX4_110 sh_2 rfl rfl (by decide) (Nat.le_of_ble_eq_true rfl) rfl (Cl.imp h (fun vv μ4 h => ?_))
    obtain ⟨v5, hv, h⟩ := h
    refine ⟨_, hv, ?_⟩
    refine r_bbne (q := 36) (t := 60) DM_X4_step_33 rfl (by decide) ⟨fun cc => ?_, fun cc => ?_⟩
    · replace h := h.1 cc
      refine r_aloadn (q := 61) DM_X4_step_60 rfl rfl ?_
      refine r_iconst (q := 62) (n := 0) DM_X4_step_61 rfl ?_
      refine v_put (q := 65) (ji := 7) DM_X4_step_62 rfl pfRX4_107 sh_2 rfl rfl (Or.inl rfl) (fun μ6 e6 => ?_)
      replace h := h μ6 e6
      refine r_iconst (q := 66) (n := 0) DM_X4_step_65 rfl ?_
      refine v_istoren (q := 67) (ls' := [some (.inr 2), some (.inl 0)]) DM_X4_step_66 rfl (by decide) rfl ?_
      exact h
    · replace h := h.2 cc
      refine r_aloadn (q := 37) DM_X4_step_36 rfl rfl ?_
      refine r_aloadn (q := 38) DM_X4_step_37 rfl rfl ?_
      refine r_getR (q := 41) (r := 3) DM_X4_step_38 rfl fRX4_9 sh_2 rfl ?_
      refine r_aloadn (q := 42) DM_X4_step_41 rfl rfl ?_
      refine v_getI (q := 45) (ji := 4) DM_X4_step_42 rfl fRX4_24 sh_2 rfl rfl ?_
      refine r_iald (q := 46) DM_X4_step_45 rfl sh_3 (by decide) ⟨h.1, ?_⟩
      have i7 := h.1
      replace h := h.2
      refine v_put (q := 49) (ji := 6) DM_X4_step_46 rfl pfRX4_72 sh_2 rfl rfl (Or.inl rfl) (fun μ8 e8 => ?_)
      replace h := h μ8 e8
      refine r_aloadn (q := 50) DM_X4_step_49 rfl rfl ?_
      refine r_dup (q := 51) DM_X4_step_50 rfl ?_
      refine v_getI (q := 54) (ji := 4) DM_X4_step_51 rfl fRX4_24 sh_2 rfl rfl ?_
      refine r_iconst (q := 55) (n := 1) DM_X4_step_54 rfl ?_
      refine r_iadd (q := 56) DM_X4_step_55 rfl ?_
      refine v_put (q := 59) (ji := 4) DM_X4_step_56 rfl pfRX4_24 sh_2 rfl rfl (Or.inl rfl) (fun μ9 e9 => ?_)
      replace h := h μ9 e9
      exact r_ret (v := none) ⟨DM_X4_step_59, rfl⟩ h
  · replace h := h.2 cc
    refine r_aloadn (q := 20) DM_X4_step_19 rfl rfl ?_
    refine r_iconst (q := 21) (n := (-1)) DM_X4_step_20 rfl ?_
    refine v_put (q := 24) (ji := 6) DM_X4_step_21 rfl pfRX4_72 sh_2 rfl rfl (Or.inl rfl) (fun μ10 e10 => ?_)
    replace h := h μ10 e10
    exact r_ret (v := none) ⟨DM_X4_step_24, rfl⟩ h
set_option maxRecDepth 20000 in
theorem s_X4_step_67 {E : Ex} {μ : Mem} {Q : Option Vl → Mem → Prop} {x1 : Int}  (h : inR x1 ∧ (x1 ≥ 120 → inR ((μ 2 4) - (μ 2 5)) ∧ (((μ 2 4) - (μ 2 5)) ≤ 2 → ∀ μ3 : Mem, μ3 = up μ 2 6 (-2) → Q none μ3) ∧ (¬ ((μ 2 4) - (μ 2 5)) ≤ 2 → ∀ μ4 : Mem, μ4 = up μ 2 6 (-3) → Q none μ4)) ∧ (¬ x1 ≥ 120 → Cl E 0 M_X4_isFigureAt [.inr 2, .inl (μ 2 4)] μ (fun vv μ5 => ∃ v6, vv = some (.inl (bi v6)) ∧ (v6 = false → inR ((μ5 2 4) - (μ5 2 5)) ∧ (((μ5 2 4) - (μ5 2 5)) ≤ 2 → ∀ μ8 : Mem, μ8 = up μ5 2 6 (-2) → Q none μ8) ∧ (¬ ((μ5 2 4) - (μ5 2 5)) ≤ 2 → ∀ μ9 : Mem, μ9 = up μ5 2 6 (-3) → Q none μ9)) ∧ (v6 = true → (x1 ≥ 2 → ∀ μ10 : Mem, μ10 = up μ5 2 4 ((μ5 2 4) + 1) → Gg E 1 M_X4_step 67 [some (.inr 2), some (.inl (x1 + 1))] [] μ10 Q) ∧ (¬ x1 ≥ 2 → (0 ≤ (μ5 2 4) ∧ (μ5 2 4) < 120) ∧ ∀ μ12 : Mem, μ12 = up μ5 2 7 ((((μ5 2 7) * 10) + (μ5 3 (μ5 2 4))) - 48) → ∀ μ13 : Mem, μ13 = up μ12 2 4 ((μ12 2 4) + 1) → Gg E 1 M_X4_step 67 [some (.inr 2), some (.inl (x1 + 1))] [] μ13 Q))))) : Gg E 1 M_X4_step 67 [some (.inr 2), some (.inl x1)] [] μ Q := by
  refine r_iloadn (q := 68) DM_X4_step_67 rfl rfl ?_
  refine r_bipush (q := 70) (n := 120) DM_X4_step_68 rfl (by decide) ?_
  have i1 := h.1
  replace h := h.2
  refine r_icge (q := 73) (t := 129) DM_X4_step_70 rfl (by decide) ⟨⟨i1, (by decide)⟩, fun cc => ?_, fun cc => ?_⟩
  · replace h := h.1 cc
    refine r_aloadn (q := 130) DM_X4_step_129 rfl rfl ?_
    refine r_aloadn (q := 131) DM_X4_step_130 rfl rfl ?_
    refine v_getI (q := 134) (ji := 4) DM_X4_step_131 rfl fRX4_24 sh_2 rfl rfl ?_
    refine r_aloadn (q := 135) DM_X4_step_134 rfl rfl ?_
    refine v_getI (q := 138) (ji := 5) DM_X4_step_135 rfl fRX4_101 sh_2 rfl rfl ?_
    refine r_isub (q := 139) DM_X4_step_138 rfl ?_
    refine r_iconst (q := 140) (n := 2) DM_X4_step_139 rfl ?_
    have i2 := h.1
    replace h := h.2
    refine r_icle (q := 143) (t := 148) DM_X4_step_140 rfl (by decide) ⟨⟨i2, (by decide)⟩, fun cc => ?_, fun cc => ?_⟩
    · replace h := h.1 cc
      refine r_bipush (q := 150) (n := (-2)) DM_X4_step_148 rfl (by decide) ?_
      refine v_put (q := 153) (ji := 6) DM_X4_step_150 rfl pfRX4_72 sh_2 rfl rfl (Or.inl rfl) (fun μ3 e3 => ?_)
      replace h := h μ3 e3
      exact r_ret (v := none) ⟨DM_X4_step_153, rfl⟩ h
    · replace h := h.2 cc
      refine r_bipush (q := 145) (n := (-3)) DM_X4_step_143 rfl (by decide) ?_
      refine r_goto (q := 150) DM_X4_step_145 (by decide) ?_
      refine v_put (q := 153) (ji := 6) DM_X4_step_150 rfl pfRX4_72 sh_2 rfl rfl (Or.inl rfl) (fun μ4 e4 => ?_)
      replace h := h μ4 e4
      exact r_ret (v := none) ⟨DM_X4_step_153, rfl⟩ h
  · replace h := h.2 cc
    refine r_aloadn (q := 74) DM_X4_step_73 rfl rfl ?_
    refine r_aloadn (q := 75) DM_X4_step_74 rfl rfl ?_
    refine v_getI (q := 78) (ji := 4) DM_X4_step_75 rfl fRX4_24 sh_2 rfl rfl ?_
    refine r_callVi [.inl (μ 2 4)] (q := 81) DM_X4_step_78 rfl kM_X4_isFigureAt lRX4_110 sh_2 rfl rfl (by decide) (Nat.le_of_ble_eq_true rfl) rfl (Cl.imp h (fun vv μ5 h => ?_))
    obtain ⟨v6, hv, h⟩ := h
    refine ⟨_, hv, ?_⟩
    refine r_bbeq (q := 84) (t := 129) DM_X4_step_81 rfl (by decide) ⟨fun cc => ?_, fun cc => ?_⟩
    · replace h := h.1 cc
      refine r_aloadn (q := 130) DM_X4_step_129 rfl rfl ?_
      refine r_aloadn (q := 131) DM_X4_step_130 rfl rfl ?_
      refine v_getI (q := 134) (ji := 4) DM_X4_step_131 rfl fRX4_24 sh_2 rfl rfl ?_
      refine r_aloadn (q := 135) DM_X4_step_134 rfl rfl ?_
      refine v_getI (q := 138) (ji := 5) DM_X4_step_135 rfl fRX4_101 sh_2 rfl rfl ?_
      refine r_isub (q := 139) DM_X4_step_138 rfl ?_
      refine r_iconst (q := 140) (n := 2) DM_X4_step_139 rfl ?_
      have i7 := h.1
      replace h := h.2
      refine r_icle (q := 143) (t := 148) DM_X4_step_140 rfl (by decide) ⟨⟨i7, (by decide)⟩, fun cc => ?_, fun cc => ?_⟩
      · replace h := h.1 cc
        refine r_bipush (q := 150) (n := (-2)) DM_X4_step_148 rfl (by decide) ?_
        refine v_put (q := 153) (ji := 6) DM_X4_step_150 rfl pfRX4_72 sh_2 rfl rfl (Or.inl rfl) (fun μ8 e8 => ?_)
        replace h := h μ8 e8
        exact r_ret (v := none) ⟨DM_X4_step_153, rfl⟩ h
      · replace h := h.2 cc
        refine r_bipush (q := 145) (n := (-3)) DM_X4_step_143 rfl (by decide) ?_
        refine r_goto (q := 150) DM_X4_step_145 (by decide) ?_
        refine v_put (q := 153) (ji := 6) DM_X4_step_150 rfl pfRX4_72 sh_2 rfl rfl (Or.inl rfl) (fun μ9 e9 => ?_)
        replace h := h μ9 e9
        exact r_ret (v := none) ⟨DM_X4_step_153, rfl⟩ h
    · replace h := h.2 cc
      refine r_iloadn (q := 85) DM_X4_step_84 rfl rfl ?_
      refine r_iconst (q := 86) (n := 2) DM_X4_step_85 rfl ?_
      refine r_icge (q := 89) (t := 113) DM_X4_step_86 rfl (by decide) ⟨⟨i1, (by decide)⟩, fun cc => ?_, fun cc => ?_⟩
      · replace h := h.1 cc
        refine r_aloadn (q := 114) DM_X4_step_113 rfl rfl ?_
        refine r_dup (q := 115) DM_X4_step_114 rfl ?_
        refine v_getI (q := 118) (ji := 4) DM_X4_step_115 rfl fRX4_24 sh_2 rfl rfl ?_
        refine r_iconst (q := 119) (n := 1) DM_X4_step_118 rfl ?_
        refine r_iadd (q := 120) DM_X4_step_119 rfl ?_
        refine v_put (q := 123) (ji := 4) DM_X4_step_120 rfl pfRX4_24 sh_2 rfl rfl (Or.inl rfl) (fun μ10 e10 => ?_)
        replace h := h μ10 e10
        refine v_iinc (q := 126) (ls' := [some (.inr 2), some (.inl (x1 + 1))]) DM_X4_step_123 rfl rfl (by decide) rfl ?_
        refine r_goto (q := 67) DM_X4_step_126 (by decide) ?_
        exact h
      · replace h := h.2 cc
        refine r_aloadn (q := 90) DM_X4_step_89 rfl rfl ?_
        refine r_aloadn (q := 91) DM_X4_step_90 rfl rfl ?_
        refine v_getI (q := 94) (ji := 7) DM_X4_step_91 rfl fRX4_107 sh_2 rfl rfl ?_
        refine r_bipush (q := 96) (n := 10) DM_X4_step_94 rfl (by decide) ?_
        refine r_imul (q := 97) DM_X4_step_96 rfl ?_
        refine r_aloadn (q := 98) DM_X4_step_97 rfl rfl ?_
        refine r_getR (q := 101) (r := 3) DM_X4_step_98 rfl fRX4_9 sh_2 rfl ?_
        refine r_aloadn (q := 102) DM_X4_step_101 rfl rfl ?_
        refine v_getI (q := 105) (ji := 4) DM_X4_step_102 rfl fRX4_24 sh_2 rfl rfl ?_
        refine r_iald (q := 106) DM_X4_step_105 rfl sh_3 (by decide) ⟨h.1, ?_⟩
        have i11 := h.1
        replace h := h.2
        refine r_iadd (q := 107) DM_X4_step_106 rfl ?_
        refine r_bipush (q := 109) (n := 48) DM_X4_step_107 rfl (by decide) ?_
        refine r_isub (q := 110) DM_X4_step_109 rfl ?_
        refine v_put (q := 113) (ji := 7) DM_X4_step_110 rfl pfRX4_107 sh_2 rfl rfl (Or.inl rfl) (fun μ12 e12 => ?_)
        replace h := h μ12 e12
        refine r_aloadn (q := 114) DM_X4_step_113 rfl rfl ?_
        refine r_dup (q := 115) DM_X4_step_114 rfl ?_
        refine v_getI (q := 118) (ji := 4) DM_X4_step_115 rfl fRX4_24 sh_2 rfl rfl ?_
        refine r_iconst (q := 119) (n := 1) DM_X4_step_118 rfl ?_
        refine r_iadd (q := 120) DM_X4_step_119 rfl ?_
        refine v_put (q := 123) (ji := 4) DM_X4_step_120 rfl pfRX4_24 sh_2 rfl rfl (Or.inl rfl) (fun μ13 e13 => ?_)
        replace h := h μ13 e13
        refine v_iinc (q := 126) (ls' := [some (.inr 2), some (.inl (x1 + 1))]) DM_X4_step_123 rfl rfl (by decide) rfl ?_
        refine r_goto (q := 67) DM_X4_step_126 (by decide) ?_
        exact h
set_option maxRecDepth 20000 in
theorem s_X4_hasFault {E : Ex} {μ : Mem} {Q : Option Vl → Mem → Prop} {x1 : Int}  (h : ∀ μ1 : Mem, μ1 = up μ 2 2 x1 → ∀ μ2 : Mem, μ2 = up μ1 2 3 (μ1 2 5) → Q (some (.inl (bi false))) μ2) : Cl E 0 M_X4_hasFault [.inr 2, .inl x1] μ Q := by
  show Gg E 0 M_X4_hasFault 0 [some (.inr 2), some (.inl x1)] [] μ Q
  refine r_aloadn (q := 1) DM_X4_hasFault_0 rfl rfl ?_
  refine r_iloadn (q := 2) DM_X4_hasFault_1 rfl rfl ?_
  refine v_put (q := 5) (ji := 2) DM_X4_hasFault_2 rfl pfRX4_98 sh_2 rfl rfl (Or.inl rfl) (fun μ1 e1 => ?_)
  replace h := h μ1 e1
  refine r_aloadn (q := 6) DM_X4_hasFault_5 rfl rfl ?_
  refine r_aloadn (q := 7) DM_X4_hasFault_6 rfl rfl ?_
  refine v_getI (q := 10) (ji := 5) DM_X4_hasFault_7 rfl fRX4_101 sh_2 rfl rfl ?_
  refine v_put (q := 13) (ji := 3) DM_X4_hasFault_10 rfl pfRX4_104 sh_2 rfl rfl (Or.inl rfl) (fun μ2 e2 => ?_)
  replace h := h μ2 e2
  refine r_iconst (q := 14) (n := 0) DM_X4_hasFault_13 rfl ?_
  exact r_ret (v := some (.inl 0)) ⟨DM_X4_hasFault_14, Or.inr ⟨rfl, Or.inl rfl⟩⟩ h
set_option maxRecDepth 20000 in
theorem s_X4_passOver {E : Ex} {μ : Mem} {Q : Option Vl → Mem → Prop} {x1 : Int}  (h : inR (μ 2 6) ∧ inR x1 ∧ ((μ 2 6) = x1 → Cl E 1 M_X4_step [.inr 2] μ (fun vv μ3 => vv = none ∧ Q (some (.inl (bi true))) μ3)) ∧ (¬ (μ 2 6) = x1 → Cl E 0 M_X4_hasFault [.inr 2, .inl 1] μ (fun vv μ5 => ∃ v6, vv = some (.inl (bi v6)) ∧ Q (some (.inl (bi v6))) μ5))) : Cl E 2 M_X4_passOver [.inr 2, .inl x1] μ Q := by
  show Gg E 2 M_X4_passOver 0 [some (.inr 2), some (.inl x1)] [] μ Q
  refine r_aloadn (q := 1) DM_X4_passOver_0 rfl rfl ?_
  refine v_getI (q := 4) (ji := 6) DM_X4_passOver_1 rfl fRX4_72 sh_2 rfl rfl ?_
  refine r_iloadn (q := 5) DM_X4_passOver_4 rfl rfl ?_
  have i1 := h.1
  replace h := h.2
  have i2 := h.1
  replace h := h.2
  refine r_iceq (q := 8) (t := 14) DM_X4_passOver_5 rfl (by decide) ⟨⟨i1, i2⟩, fun cc => ?_, fun cc => ?_⟩
  · replace h := h.1 cc
    refine r_aloadn (q := 15) DM_X4_passOver_14 rfl rfl ?_
    refine r_callVv [] (q := 18) DM_X4_passOver_15 rfl kM_X4_step lRX4_27 sh_2 rfl rfl (by decide) (Nat.le_of_ble_eq_true rfl) rfl (Cl.imp h (fun vv μ3 h => ?_))
    obtain ⟨hv, h⟩ := h
    refine ⟨hv, ?_⟩
    refine r_iconst (q := 19) (n := 1) DM_X4_passOver_18 rfl ?_
    exact r_ret (v := some (.inl 1)) ⟨DM_X4_passOver_19, Or.inr ⟨rfl, Or.inr rfl⟩⟩ h
  · replace h := h.2 cc
    refine r_aloadn (q := 9) DM_X4_passOver_8 rfl rfl ?_
    refine r_iconst (q := 10) (n := 1) DM_X4_passOver_9 rfl ?_
    refine r_callVi [.inl 1] (q := 13) DM_X4_passOver_10 rfl kM_X4_hasFault lRX4_65 sh_2 rfl rfl (by decide) (Nat.le_of_ble_eq_true rfl) rfl (Cl.imp h (fun vv μ5 h => ?_))
    obtain ⟨v6, hv, h⟩ := h
    refine ⟨_, hv, ?_⟩
    exact r_ret (v := some (.inl (bi v6))) ⟨DM_X4_passOver_13, Or.inr ⟨rfl, bi_01 _⟩⟩ h
set_option maxRecDepth 20000 in
theorem s_X4_isNumberIn {E : Ex} {μ : Mem} {Q : Option Vl → Mem → Prop} {x1 x2 : Int}  (h : inR (μ 2 6) ∧ ((μ 2 6) = (-2) → inR (μ 2 7) ∧ inR x1 ∧ ((μ 2 7) < x1 → Cl E 0 M_X4_hasFault [.inr 2, .inl 2] μ (fun vv μ4 => ∃ v5, vv = some (.inl (bi v5)) ∧ Q (some (.inl (bi v5))) μ4)) ∧ (¬ (μ 2 7) < x1 → inR x2 ∧ ((μ 2 7) ≤ x2 → Q (some (.inl (bi true))) μ) ∧ (¬ (μ 2 7) ≤ x2 → Cl E 0 M_X4_hasFault [.inr 2, .inl 2] μ (fun vv μ7 => ∃ v8, vv = some (.inl (bi v8)) ∧ Q (some (.inl (bi v8))) μ7)))) ∧ (¬ (μ 2 6) = (-2) → Cl E 0 M_X4_hasFault [.inr 2, .inl 1] μ (fun vv μ9 => ∃ v10, vv = some (.inl (bi v10)) ∧ Q (some (.inl (bi v10))) μ9))) : Cl E 1 M_X4_isNumberIn [.inr 2, .inl x1, .inl x2] μ Q := by
  show Gg E 1 M_X4_isNumberIn 0 [some (.inr 2), some (.inl x1), some (.inl x2)] [] μ Q
  refine r_aloadn (q := 1) DM_X4_isNumberIn_0 rfl rfl ?_
  refine v_getI (q := 4) (ji := 6) DM_X4_isNumberIn_1 rfl fRX4_72 sh_2 rfl rfl ?_
  refine r_bipush (q := 6) (n := (-2)) DM_X4_isNumberIn_4 rfl (by decide) ?_
  have i1 := h.1
  replace h := h.2
  refine r_iceq (q := 9) (t := 15) DM_X4_isNumberIn_6 rfl (by decide) ⟨⟨i1, (by decide)⟩, fun cc => ?_, fun cc => ?_⟩
  · replace h := h.1 cc
    refine r_aloadn (q := 16) DM_X4_isNumberIn_15 rfl rfl ?_
    refine v_getI (q := 19) (ji := 7) DM_X4_isNumberIn_16 rfl fRX4_107 sh_2 rfl rfl ?_
    refine r_iloadn (q := 20) DM_X4_isNumberIn_19 rfl rfl ?_
    have i2 := h.1
    replace h := h.2
    have i3 := h.1
    replace h := h.2
    refine r_iclt (q := 23) (t := 31) DM_X4_isNumberIn_20 rfl (by decide) ⟨⟨i2, i3⟩, fun cc => ?_, fun cc => ?_⟩
    · replace h := h.1 cc
      refine r_aloadn (q := 32) DM_X4_isNumberIn_31 rfl rfl ?_
      refine r_iconst (q := 33) (n := 2) DM_X4_isNumberIn_32 rfl ?_
      refine r_callVi [.inl 2] (q := 36) DM_X4_isNumberIn_33 rfl kM_X4_hasFault lRX4_65 sh_2 rfl rfl (by decide) (Nat.le_of_ble_eq_true rfl) rfl (Cl.imp h (fun vv μ4 h => ?_))
      obtain ⟨v5, hv, h⟩ := h
      refine ⟨_, hv, ?_⟩
      exact r_ret (v := some (.inl (bi v5))) ⟨DM_X4_isNumberIn_36, Or.inr ⟨rfl, bi_01 _⟩⟩ h
    · replace h := h.2 cc
      refine r_aloadn (q := 24) DM_X4_isNumberIn_23 rfl rfl ?_
      refine v_getI (q := 27) (ji := 7) DM_X4_isNumberIn_24 rfl fRX4_107 sh_2 rfl rfl ?_
      refine r_iloadn (q := 28) DM_X4_isNumberIn_27 rfl rfl ?_
      have i6 := h.1
      replace h := h.2
      refine r_icle (q := 31) (t := 37) DM_X4_isNumberIn_28 rfl (by decide) ⟨⟨i2, i6⟩, fun cc => ?_, fun cc => ?_⟩
      · replace h := h.1 cc
        refine r_iconst (q := 38) (n := 1) DM_X4_isNumberIn_37 rfl ?_
        exact r_ret (v := some (.inl 1)) ⟨DM_X4_isNumberIn_38, Or.inr ⟨rfl, Or.inr rfl⟩⟩ h
      · replace h := h.2 cc
        refine r_aloadn (q := 32) DM_X4_isNumberIn_31 rfl rfl ?_
        refine r_iconst (q := 33) (n := 2) DM_X4_isNumberIn_32 rfl ?_
        refine r_callVi [.inl 2] (q := 36) DM_X4_isNumberIn_33 rfl kM_X4_hasFault lRX4_65 sh_2 rfl rfl (by decide) (Nat.le_of_ble_eq_true rfl) rfl (Cl.imp h (fun vv μ7 h => ?_))
        obtain ⟨v8, hv, h⟩ := h
        refine ⟨_, hv, ?_⟩
        exact r_ret (v := some (.inl (bi v8))) ⟨DM_X4_isNumberIn_36, Or.inr ⟨rfl, bi_01 _⟩⟩ h
  · replace h := h.2 cc
    refine r_aloadn (q := 10) DM_X4_isNumberIn_9 rfl rfl ?_
    refine r_iconst (q := 11) (n := 1) DM_X4_isNumberIn_10 rfl ?_
    refine r_callVi [.inl 1] (q := 14) DM_X4_isNumberIn_11 rfl kM_X4_hasFault lRX4_65 sh_2 rfl rfl (by decide) (Nat.le_of_ble_eq_true rfl) rfl (Cl.imp h (fun vv μ9 h => ?_))
    obtain ⟨v10, hv, h⟩ := h
    refine ⟨_, hv, ?_⟩
    exact r_ret (v := some (.inl (bi v10))) ⟨DM_X4_isNumberIn_14, Or.inr ⟨rfl, bi_01 _⟩⟩ h
set_option maxRecDepth 20000 in
theorem s_X4_takeNumber {E : Ex} {μ : Mem} {Q : Option Vl → Mem → Prop}  (h : Cl E 1 M_X4_step [.inr 2] μ (fun vv μ1 => vv = none ∧ Q (some (.inl (μ 2 7))) μ1)) : Cl E 2 M_X4_takeNumber [.inr 2] μ Q := by
  show Gg E 2 M_X4_takeNumber 0 [some (.inr 2), none] [] μ Q
  refine r_aloadn (q := 1) DM_X4_takeNumber_0 rfl rfl ?_
  refine v_getI (q := 4) (ji := 7) DM_X4_takeNumber_1 rfl fRX4_107 sh_2 rfl rfl ?_
  refine v_istoren (q := 5) (ls' := [some (.inr 2), some (.inl (μ 2 7))]) DM_X4_takeNumber_4 rfl (by decide) rfl ?_
  refine r_aloadn (q := 6) DM_X4_takeNumber_5 rfl rfl ?_
  refine r_callVv [] (q := 9) DM_X4_takeNumber_6 rfl kM_X4_step lRX4_27 sh_2 rfl rfl (by decide) (Nat.le_of_ble_eq_true rfl) rfl (Cl.imp h (fun vv μ1 h => ?_))
  obtain ⟨hv, h⟩ := h
  refine ⟨hv, ?_⟩
  refine r_iloadn (q := 10) DM_X4_takeNumber_9 rfl rfl ?_
  exact r_ret (v := some (.inl (μ 2 7))) ⟨DM_X4_takeNumber_10, Or.inl rfl⟩ h
set_option maxRecDepth 20000 in
theorem s_X4_isLetter {E : Ex} {μ : Mem} {Q : Option Vl → Mem → Prop}  (h : inR (μ 2 6) ∧ ((μ 2 6) < 97 → Q (some (.inl (bi false))) μ) ∧ (¬ (μ 2 6) < 97 → ((μ 2 6) ≥ 105 → Q (some (.inl (bi false))) μ) ∧ (¬ (μ 2 6) ≥ 105 → Q (some (.inl (bi true))) μ))) : Cl E 0 M_X4_isLetter [.inr 2] μ Q := by
  show Gg E 0 M_X4_isLetter 0 [some (.inr 2)] [] μ Q
  refine r_aloadn (q := 1) DM_X4_isLetter_0 rfl rfl ?_
  refine v_getI (q := 4) (ji := 6) DM_X4_isLetter_1 rfl fRX4_72 sh_2 rfl rfl ?_
  refine r_bipush (q := 6) (n := 97) DM_X4_isLetter_4 rfl (by decide) ?_
  have i1 := h.1
  replace h := h.2
  refine r_iclt (q := 9) (t := 22) DM_X4_isLetter_6 rfl (by decide) ⟨⟨i1, (by decide)⟩, fun cc => ?_, fun cc => ?_⟩
  · replace h := h.1 cc
    refine r_iconst (q := 23) (n := 0) DM_X4_isLetter_22 rfl ?_
    exact r_ret (v := some (.inl 0)) ⟨DM_X4_isLetter_23, Or.inr ⟨rfl, Or.inl rfl⟩⟩ h
  · replace h := h.2 cc
    refine r_aloadn (q := 10) DM_X4_isLetter_9 rfl rfl ?_
    refine v_getI (q := 13) (ji := 6) DM_X4_isLetter_10 rfl fRX4_72 sh_2 rfl rfl ?_
    refine r_bipush (q := 15) (n := 105) DM_X4_isLetter_13 rfl (by decide) ?_
    refine r_icge (q := 18) (t := 22) DM_X4_isLetter_15 rfl (by decide) ⟨⟨i1, (by decide)⟩, fun cc => ?_, fun cc => ?_⟩
    · replace h := h.1 cc
      refine r_iconst (q := 23) (n := 0) DM_X4_isLetter_22 rfl ?_
      exact r_ret (v := some (.inl 0)) ⟨DM_X4_isLetter_23, Or.inr ⟨rfl, Or.inl rfl⟩⟩ h
    · replace h := h.2 cc
      refine r_iconst (q := 19) (n := 1) DM_X4_isLetter_18 rfl ?_
      refine r_goto (q := 23) DM_X4_isLetter_19 (by decide) ?_
      exact r_ret (v := some (.inl 1)) ⟨DM_X4_isLetter_23, Or.inr ⟨rfl, Or.inr rfl⟩⟩ h
set_option maxRecDepth 20000 in
theorem s_X4_letterOfToken {E : Ex} {μ : Mem} {Q : Option Vl → Mem → Prop}  (h : Q (some (.inl ((μ 2 6) - 97))) μ) : Cl E 0 M_X4_letterOfToken [.inr 2] μ Q := by
  show Gg E 0 M_X4_letterOfToken 0 [some (.inr 2)] [] μ Q
  refine r_aloadn (q := 1) DM_X4_letterOfToken_0 rfl rfl ?_
  refine v_getI (q := 4) (ji := 6) DM_X4_letterOfToken_1 rfl fRX4_72 sh_2 rfl rfl ?_
  refine r_bipush (q := 6) (n := 97) DM_X4_letterOfToken_4 rfl (by decide) ?_
  refine r_isub (q := 7) DM_X4_letterOfToken_6 rfl ?_
  exact r_ret (v := some (.inl ((μ 2 6) - 97))) ⟨DM_X4_letterOfToken_7, Or.inl rfl⟩ h
set_option maxRecDepth 20000 in
theorem s_X8_advances {E : Ex} {μ : Mem} {Q : Option Vl → Mem → Prop}  (h : ∀ μ1 : Mem, μ1 = up μ 83 10 (μ 83 9) → Cl E 0 M_X8_byteAt [.inr 83, .inl (μ1 83 9)] μ1 (fun vv μ2 => ∃ v3, vv = some (.inl v3) ∧ ∀ μ4 : Mem, μ4 = up μ2 83 12 v3 → inR v3 ∧ (¬ (48 ≤ v3 ∧ v3 ≤ 57) → (v3 ≥ 0 → (¬ (97 ≤ v3 ∧ v3 ≤ 122) → (v3 ≠ 44 → (v3 ≠ 59 → ∀ μ6 : Mem, μ6 = up μ4 83 11 5 → inR (μ6 83 11) ∧ ((μ6 83 11) ≠ 0 → ∀ μ8 : Mem, μ8 = up μ6 83 9 ((μ6 83 9) + 1) → Q none μ8) ∧ ((μ6 83 11) = 0 → ∀ μ9 : Mem, μ9 = up μ6 83 9 ((μ6 83 9) + 0) → Q none μ9)) ∧ (v3 = 59 → ∀ μ10 : Mem, μ10 = up μ4 83 11 4 → inR (μ10 83 11) ∧ ((μ10 83 11) ≠ 0 → ∀ μ12 : Mem, μ12 = up μ10 83 9 ((μ10 83 9) + 1) → Q none μ12) ∧ ((μ10 83 11) = 0 → ∀ μ13 : Mem, μ13 = up μ10 83 9 ((μ10 83 9) + 0) → Q none μ13))) ∧ (v3 = 44 → ∀ μ14 : Mem, μ14 = up μ4 83 11 3 → inR (μ14 83 11) ∧ ((μ14 83 11) ≠ 0 → ∀ μ16 : Mem, μ16 = up μ14 83 9 ((μ14 83 9) + 1) → Q none μ16) ∧ ((μ14 83 11) = 0 → ∀ μ17 : Mem, μ17 = up μ14 83 9 ((μ14 83 9) + 0) → Q none μ17))) ∧ ((97 ≤ v3 ∧ v3 ≤ 122) → ∀ μ18 : Mem, μ18 = up μ4 83 11 1 → inR (μ18 83 11) ∧ ((μ18 83 11) ≠ 0 → ∀ μ20 : Mem, μ20 = up μ18 83 9 ((μ18 83 9) + 1) → Q none μ20) ∧ ((μ18 83 11) = 0 → ∀ μ21 : Mem, μ21 = up μ18 83 9 ((μ18 83 9) + 0) → Q none μ21))) ∧ (¬ v3 ≥ 0 → ∀ μ22 : Mem, μ22 = up μ4 83 11 0 → inR (μ22 83 11) ∧ ((μ22 83 11) ≠ 0 → ∀ μ24 : Mem, μ24 = up μ22 83 9 ((μ22 83 9) + 1) → Q none μ24) ∧ ((μ22 83 11) = 0 → ∀ μ25 : Mem, μ25 = up μ22 83 9 ((μ22 83 9) + 0) → Q none μ25))) ∧ ((48 ≤ v3 ∧ v3 ≤ 57) → ∀ μ26 : Mem, μ26 = up μ4 83 12 0 → Gg E 1 M_X8_advances 38 [some (.inr 83), some (.inl v3)] [] μ26 Q))) : Cl E 1 M_X8_advances [.inr 83] μ Q := by
  show Gg E 1 M_X8_advances 0 [some (.inr 83), none] [] μ Q
  refine r_aloadn (q := 1) DM_X8_advances_0 rfl rfl ?_
  refine r_aloadn (q := 2) DM_X8_advances_1 rfl rfl ?_
  refine v_getI (q := 5) (ji := 9) DM_X8_advances_2 rfl fRX8_95 sh_83 rfl rfl ?_
  refine v_put (q := 8) (ji := 10) DM_X8_advances_5 rfl pfRX8_98 sh_83 rfl rfl (Or.inl rfl) (fun μ1 e1 => ?_)
  replace h := h μ1 e1
  refine r_aloadn (q := 9) DM_X8_advances_8 rfl rfl ?_
  refine r_aloadn (q := 10) DM_X8_advances_9 rfl rfl ?_
  refine v_getI (q := 13) (ji := 9) DM_X8_advances_10 rfl fRX8_95 sh_83 rfl rfl ?_
  refine r_callVi [.inl (μ1 83 9)] (q := 16) DM_X8_advances_13 rfl kM_X8_byteAt lRX8_101 sh_83 rfl rfl (by decide) (Nat.le_of_ble_eq_true rfl) rfl (Cl.imp h (fun vv μ2 h => ?_))
  obtain ⟨v3, hv, h⟩ := h
  refine ⟨v3, hv, ?_⟩
  refine v_istoren (q := 17) (ls' := [some (.inr 83), some (.inl v3)]) DM_X8_advances_16 rfl (by decide) rfl ?_
  refine r_aloadn (q := 18) DM_X8_advances_17 rfl rfl ?_
  refine r_iloadn (q := 19) DM_X8_advances_18 rfl rfl ?_
  refine v_put (q := 22) (ji := 12) DM_X8_advances_19 rfl pfRX8_104 sh_83 rfl rfl (Or.inl rfl) (fun μ4 e4 => ?_)
  replace h := h μ4 e4
  refine r_iloadn (q := 23) DM_X8_advances_22 rfl rfl ?_
  refine r_bipush (q := 25) (n := 48) DM_X8_advances_23 rfl (by decide) ?_
  refine r_bipush (q := 27) (n := 57) DM_X8_advances_25 rfl (by decide) ?_
  have i5 := h.1
  replace h := h.2
  refine r_callSi [.inl v3, .inl 48, .inl 57] (q := 30) DM_X8_advances_27 rfl kM_X8_in lRX8_65 rfl (by decide) (Nat.le_of_ble_eq_true rfl) rfl (k_X8_in i5 (by decide) (by decide) ⟨_, rfl, ?_⟩)
  refine r_bieq (q := 33) (t := 135) DM_X8_advances_30 rfl (by decide) ⟨fun cc => ?_, fun cc => ?_⟩
  · replace h := h.1 cc
    refine r_aloadn (q := 136) DM_X8_advances_135 rfl rfl ?_
    refine r_iloadn (q := 137) DM_X8_advances_136 rfl rfl ?_
    refine r_ifge (q := 140) (t := 144) DM_X8_advances_137 rfl (by decide) ⟨i5, fun cc => ?_, fun cc => ?_⟩
    · replace h := h.1 cc
      refine r_iloadn (q := 145) DM_X8_advances_144 rfl rfl ?_
      refine r_bipush (q := 147) (n := 97) DM_X8_advances_145 rfl (by decide) ?_
      refine r_bipush (q := 149) (n := 122) DM_X8_advances_147 rfl (by decide) ?_
      refine r_callSi [.inl v3, .inl 97, .inl 122] (q := 152) DM_X8_advances_149 rfl kM_X8_in lRX8_65 rfl (by decide) (Nat.le_of_ble_eq_true rfl) rfl (k_X8_in i5 (by decide) (by decide) ⟨_, rfl, ?_⟩)
      refine r_bieq (q := 155) (t := 159) DM_X8_advances_152 rfl (by decide) ⟨fun cc => ?_, fun cc => ?_⟩
      · replace h := h.1 cc
        refine r_iloadn (q := 160) DM_X8_advances_159 rfl rfl ?_
        refine r_bipush (q := 162) (n := 44) DM_X8_advances_160 rfl (by decide) ?_
        refine r_icne (q := 165) (t := 169) DM_X8_advances_162 rfl (by decide) ⟨⟨i5, (by decide)⟩, fun cc => ?_, fun cc => ?_⟩
        · replace h := h.1 cc
          refine r_iloadn (q := 170) DM_X8_advances_169 rfl rfl ?_
          refine r_bipush (q := 172) (n := 59) DM_X8_advances_170 rfl (by decide) ?_
          refine r_icne (q := 175) (t := 179) DM_X8_advances_172 rfl (by decide) ⟨⟨i5, (by decide)⟩, fun cc => ?_, fun cc => ?_⟩
          · replace h := h.1 cc
            refine r_iconst (q := 180) (n := 5) DM_X8_advances_179 rfl ?_
            refine v_put (q := 183) (ji := 11) DM_X8_advances_180 rfl pfRX8_107 sh_83 rfl rfl (Or.inl rfl) (fun μ6 e6 => ?_)
            replace h := h μ6 e6
            refine r_aloadn (q := 184) DM_X8_advances_183 rfl rfl ?_
            refine r_dup (q := 185) DM_X8_advances_184 rfl ?_
            refine v_getI (q := 188) (ji := 9) DM_X8_advances_185 rfl fRX8_95 sh_83 rfl rfl ?_
            refine r_aloadn (q := 189) DM_X8_advances_188 rfl rfl ?_
            refine v_getI (q := 192) (ji := 11) DM_X8_advances_189 rfl fRX8_107 sh_83 rfl rfl ?_
            have i7 := h.1
            replace h := h.2
            refine r_ifne (q := 195) (t := 199) DM_X8_advances_192 rfl (by decide) ⟨i7, fun cc => ?_, fun cc => ?_⟩
            · replace h := h.1 cc
              refine r_iconst (q := 200) (n := 1) DM_X8_advances_199 rfl ?_
              refine r_iadd (q := 201) DM_X8_advances_200 rfl ?_
              refine v_put (q := 204) (ji := 9) DM_X8_advances_201 rfl pfRX8_95 sh_83 rfl rfl (Or.inl rfl) (fun μ8 e8 => ?_)
              replace h := h μ8 e8
              exact r_ret (v := none) ⟨DM_X8_advances_204, rfl⟩ h
            · replace h := h.2 cc
              refine r_iconst (q := 196) (n := 0) DM_X8_advances_195 rfl ?_
              refine r_goto (q := 200) DM_X8_advances_196 (by decide) ?_
              refine r_iadd (q := 201) DM_X8_advances_200 rfl ?_
              refine v_put (q := 204) (ji := 9) DM_X8_advances_201 rfl pfRX8_95 sh_83 rfl rfl (Or.inl rfl) (fun μ9 e9 => ?_)
              replace h := h μ9 e9
              exact r_ret (v := none) ⟨DM_X8_advances_204, rfl⟩ h
          · replace h := h.2 cc
            refine r_iconst (q := 176) (n := 4) DM_X8_advances_175 rfl ?_
            refine r_goto (q := 180) DM_X8_advances_176 (by decide) ?_
            refine v_put (q := 183) (ji := 11) DM_X8_advances_180 rfl pfRX8_107 sh_83 rfl rfl (Or.inl rfl) (fun μ10 e10 => ?_)
            replace h := h μ10 e10
            refine r_aloadn (q := 184) DM_X8_advances_183 rfl rfl ?_
            refine r_dup (q := 185) DM_X8_advances_184 rfl ?_
            refine v_getI (q := 188) (ji := 9) DM_X8_advances_185 rfl fRX8_95 sh_83 rfl rfl ?_
            refine r_aloadn (q := 189) DM_X8_advances_188 rfl rfl ?_
            refine v_getI (q := 192) (ji := 11) DM_X8_advances_189 rfl fRX8_107 sh_83 rfl rfl ?_
            have i11 := h.1
            replace h := h.2
            refine r_ifne (q := 195) (t := 199) DM_X8_advances_192 rfl (by decide) ⟨i11, fun cc => ?_, fun cc => ?_⟩
            · replace h := h.1 cc
              refine r_iconst (q := 200) (n := 1) DM_X8_advances_199 rfl ?_
              refine r_iadd (q := 201) DM_X8_advances_200 rfl ?_
              refine v_put (q := 204) (ji := 9) DM_X8_advances_201 rfl pfRX8_95 sh_83 rfl rfl (Or.inl rfl) (fun μ12 e12 => ?_)
              replace h := h μ12 e12
              exact r_ret (v := none) ⟨DM_X8_advances_204, rfl⟩ h
            · replace h := h.2 cc
              refine r_iconst (q := 196) (n := 0) DM_X8_advances_195 rfl ?_
              refine r_goto (q := 200) DM_X8_advances_196 (by decide) ?_
              refine r_iadd (q := 201) DM_X8_advances_200 rfl ?_
              refine v_put (q := 204) (ji := 9) DM_X8_advances_201 rfl pfRX8_95 sh_83 rfl rfl (Or.inl rfl) (fun μ13 e13 => ?_)
              replace h := h μ13 e13
              exact r_ret (v := none) ⟨DM_X8_advances_204, rfl⟩ h
        · replace h := h.2 cc
          refine r_iconst (q := 166) (n := 3) DM_X8_advances_165 rfl ?_
          refine r_goto (q := 180) DM_X8_advances_166 (by decide) ?_
          refine v_put (q := 183) (ji := 11) DM_X8_advances_180 rfl pfRX8_107 sh_83 rfl rfl (Or.inl rfl) (fun μ14 e14 => ?_)
          replace h := h μ14 e14
          refine r_aloadn (q := 184) DM_X8_advances_183 rfl rfl ?_
          refine r_dup (q := 185) DM_X8_advances_184 rfl ?_
          refine v_getI (q := 188) (ji := 9) DM_X8_advances_185 rfl fRX8_95 sh_83 rfl rfl ?_
          refine r_aloadn (q := 189) DM_X8_advances_188 rfl rfl ?_
          refine v_getI (q := 192) (ji := 11) DM_X8_advances_189 rfl fRX8_107 sh_83 rfl rfl ?_
          have i15 := h.1
          replace h := h.2
          refine r_ifne (q := 195) (t := 199) DM_X8_advances_192 rfl (by decide) ⟨i15, fun cc => ?_, fun cc => ?_⟩
          · replace h := h.1 cc
            refine r_iconst (q := 200) (n := 1) DM_X8_advances_199 rfl ?_
            refine r_iadd (q := 201) DM_X8_advances_200 rfl ?_
            refine v_put (q := 204) (ji := 9) DM_X8_advances_201 rfl pfRX8_95 sh_83 rfl rfl (Or.inl rfl) (fun μ16 e16 => ?_)
            replace h := h μ16 e16
            exact r_ret (v := none) ⟨DM_X8_advances_204, rfl⟩ h
          · replace h := h.2 cc
            refine r_iconst (q := 196) (n := 0) DM_X8_advances_195 rfl ?_
            refine r_goto (q := 200) DM_X8_advances_196 (by decide) ?_
            refine r_iadd (q := 201) DM_X8_advances_200 rfl ?_
            refine v_put (q := 204) (ji := 9) DM_X8_advances_201 rfl pfRX8_95 sh_83 rfl rfl (Or.inl rfl) (fun μ17 e17 => ?_)
            replace h := h μ17 e17
            exact r_ret (v := none) ⟨DM_X8_advances_204, rfl⟩ h
      · replace h := h.2 cc
        refine r_iconst (q := 156) (n := 1) DM_X8_advances_155 rfl ?_
        refine r_goto (q := 180) DM_X8_advances_156 (by decide) ?_
        refine v_put (q := 183) (ji := 11) DM_X8_advances_180 rfl pfRX8_107 sh_83 rfl rfl (Or.inl rfl) (fun μ18 e18 => ?_)
        replace h := h μ18 e18
        refine r_aloadn (q := 184) DM_X8_advances_183 rfl rfl ?_
        refine r_dup (q := 185) DM_X8_advances_184 rfl ?_
        refine v_getI (q := 188) (ji := 9) DM_X8_advances_185 rfl fRX8_95 sh_83 rfl rfl ?_
        refine r_aloadn (q := 189) DM_X8_advances_188 rfl rfl ?_
        refine v_getI (q := 192) (ji := 11) DM_X8_advances_189 rfl fRX8_107 sh_83 rfl rfl ?_
        have i19 := h.1
        replace h := h.2
        refine r_ifne (q := 195) (t := 199) DM_X8_advances_192 rfl (by decide) ⟨i19, fun cc => ?_, fun cc => ?_⟩
        · replace h := h.1 cc
          refine r_iconst (q := 200) (n := 1) DM_X8_advances_199 rfl ?_
          refine r_iadd (q := 201) DM_X8_advances_200 rfl ?_
          refine v_put (q := 204) (ji := 9) DM_X8_advances_201 rfl pfRX8_95 sh_83 rfl rfl (Or.inl rfl) (fun μ20 e20 => ?_)
          replace h := h μ20 e20
          exact r_ret (v := none) ⟨DM_X8_advances_204, rfl⟩ h
        · replace h := h.2 cc
          refine r_iconst (q := 196) (n := 0) DM_X8_advances_195 rfl ?_
          refine r_goto (q := 200) DM_X8_advances_196 (by decide) ?_
          refine r_iadd (q := 201) DM_X8_advances_200 rfl ?_
          refine v_put (q := 204) (ji := 9) DM_X8_advances_201 rfl pfRX8_95 sh_83 rfl rfl (Or.inl rfl) (fun μ21 e21 => ?_)
          replace h := h μ21 e21
          exact r_ret (v := none) ⟨DM_X8_advances_204, rfl⟩ h
    · replace h := h.2 cc
      refine r_iconst (q := 141) (n := 0) DM_X8_advances_140 rfl ?_
      refine r_goto (q := 180) DM_X8_advances_141 (by decide) ?_
      refine v_put (q := 183) (ji := 11) DM_X8_advances_180 rfl pfRX8_107 sh_83 rfl rfl (Or.inl rfl) (fun μ22 e22 => ?_)
      replace h := h μ22 e22
      refine r_aloadn (q := 184) DM_X8_advances_183 rfl rfl ?_
      refine r_dup (q := 185) DM_X8_advances_184 rfl ?_
      refine v_getI (q := 188) (ji := 9) DM_X8_advances_185 rfl fRX8_95 sh_83 rfl rfl ?_
      refine r_aloadn (q := 189) DM_X8_advances_188 rfl rfl ?_
      refine v_getI (q := 192) (ji := 11) DM_X8_advances_189 rfl fRX8_107 sh_83 rfl rfl ?_
      have i23 := h.1
      replace h := h.2
      refine r_ifne (q := 195) (t := 199) DM_X8_advances_192 rfl (by decide) ⟨i23, fun cc => ?_, fun cc => ?_⟩
      · replace h := h.1 cc
        refine r_iconst (q := 200) (n := 1) DM_X8_advances_199 rfl ?_
        refine r_iadd (q := 201) DM_X8_advances_200 rfl ?_
        refine v_put (q := 204) (ji := 9) DM_X8_advances_201 rfl pfRX8_95 sh_83 rfl rfl (Or.inl rfl) (fun μ24 e24 => ?_)
        replace h := h μ24 e24
        exact r_ret (v := none) ⟨DM_X8_advances_204, rfl⟩ h
      · replace h := h.2 cc
        refine r_iconst (q := 196) (n := 0) DM_X8_advances_195 rfl ?_
        refine r_goto (q := 200) DM_X8_advances_196 (by decide) ?_
        refine r_iadd (q := 201) DM_X8_advances_200 rfl ?_
        refine v_put (q := 204) (ji := 9) DM_X8_advances_201 rfl pfRX8_95 sh_83 rfl rfl (Or.inl rfl) (fun μ25 e25 => ?_)
        replace h := h μ25 e25
        exact r_ret (v := none) ⟨DM_X8_advances_204, rfl⟩ h
  · replace h := h.2 cc
    refine r_aloadn (q := 34) DM_X8_advances_33 rfl rfl ?_
    refine r_iconst (q := 35) (n := 0) DM_X8_advances_34 rfl ?_
    refine v_put (q := 38) (ji := 12) DM_X8_advances_35 rfl pfRX8_104 sh_83 rfl rfl (Or.inl rfl) (fun μ26 e26 => ?_)
    replace h := h μ26 e26
    exact h
set_option maxRecDepth 20000 in
theorem s_X8_advances_38 {E : Ex} {μ : Mem} {Q : Option Vl → Mem → Prop} {x1 : Int}  (h : Cl E 0 M_X8_byteAt [.inr 83, .inl (μ 83 9)] μ (fun vv μ1 => ∃ v2, vv = some (.inl v2) ∧ inR v2 ∧ (¬ (48 ≤ v2 ∧ v2 ≤ 57) → inR ((μ1 83 9) - (μ1 83 10)) ∧ (((μ1 83 9) - (μ1 83 10)) ≥ 3 → ∀ μ5 : Mem, μ5 = up μ1 83 11 5 → Q none μ5) ∧ (¬ ((μ1 83 9) - (μ1 83 10)) ≥ 3 → ∀ μ6 : Mem, μ6 = up μ1 83 11 2 → Q none μ6)) ∧ ((48 ≤ v2 ∧ v2 ≤ 57) → inR ((μ1 83 9) - (μ1 83 10)) ∧ (((μ1 83 9) - (μ1 83 10)) ≥ 2 → ∀ μ8 : Mem, μ8 = up μ1 83 12 (μ1 83 12) → ∀ μ9 : Mem, μ9 = up μ8 83 9 ((μ8 83 9) + 1) → Gg E 1 M_X8_advances 38 [some (.inr 83), some (.inl x1)] [] μ9 Q) ∧ (¬ ((μ1 83 9) - (μ1 83 10)) ≥ 2 → Cl E 0 M_X8_byteAt [.inr 83, .inl (μ1 83 9)] μ1 (fun vv μ10 => ∃ v11, vv = some (.inl v11) ∧ ∀ μ12 : Mem, μ12 = up μ10 83 12 (((10 * (μ1 83 12)) + v11) - 48) → ∀ μ13 : Mem, μ13 = up μ12 83 9 ((μ12 83 9) + 1) → Gg E 1 M_X8_advances 38 [some (.inr 83), some (.inl x1)] [] μ13 Q))))) : Gg E 1 M_X8_advances 38 [some (.inr 83), some (.inl x1)] [] μ Q := by
  refine r_aloadn (q := 39) DM_X8_advances_38 rfl rfl ?_
  refine r_aloadn (q := 40) DM_X8_advances_39 rfl rfl ?_
  refine v_getI (q := 43) (ji := 9) DM_X8_advances_40 rfl fRX8_95 sh_83 rfl rfl ?_
  refine r_callVi [.inl (μ 83 9)] (q := 46) DM_X8_advances_43 rfl kM_X8_byteAt lRX8_101 sh_83 rfl rfl (by decide) (Nat.le_of_ble_eq_true rfl) rfl (Cl.imp h (fun vv μ1 h => ?_))
  obtain ⟨v2, hv, h⟩ := h
  refine ⟨v2, hv, ?_⟩
  refine r_bipush (q := 48) (n := 48) DM_X8_advances_46 rfl (by decide) ?_
  refine r_bipush (q := 50) (n := 57) DM_X8_advances_48 rfl (by decide) ?_
  have i3 := h.1
  replace h := h.2
  refine r_callSi [.inl v2, .inl 48, .inl 57] (q := 53) DM_X8_advances_50 rfl kM_X8_in lRX8_65 rfl (by decide) (Nat.le_of_ble_eq_true rfl) rfl (k_X8_in i3 (by decide) (by decide) ⟨_, rfl, ?_⟩)
  refine r_bieq (q := 56) (t := 112) DM_X8_advances_53 rfl (by decide) ⟨fun cc => ?_, fun cc => ?_⟩
  · replace h := h.1 cc
    refine r_aloadn (q := 113) DM_X8_advances_112 rfl rfl ?_
    refine r_aloadn (q := 114) DM_X8_advances_113 rfl rfl ?_
    refine v_getI (q := 117) (ji := 9) DM_X8_advances_114 rfl fRX8_95 sh_83 rfl rfl ?_
    refine r_aloadn (q := 118) DM_X8_advances_117 rfl rfl ?_
    refine v_getI (q := 121) (ji := 10) DM_X8_advances_118 rfl fRX8_98 sh_83 rfl rfl ?_
    refine r_isub (q := 122) DM_X8_advances_121 rfl ?_
    refine r_iconst (q := 123) (n := 3) DM_X8_advances_122 rfl ?_
    have i4 := h.1
    replace h := h.2
    refine r_icge (q := 126) (t := 130) DM_X8_advances_123 rfl (by decide) ⟨⟨i4, (by decide)⟩, fun cc => ?_, fun cc => ?_⟩
    · replace h := h.1 cc
      refine r_iconst (q := 131) (n := 5) DM_X8_advances_130 rfl ?_
      refine v_put (q := 134) (ji := 11) DM_X8_advances_131 rfl pfRX8_107 sh_83 rfl rfl (Or.inl rfl) (fun μ5 e5 => ?_)
      replace h := h μ5 e5
      exact r_ret (v := none) ⟨DM_X8_advances_134, rfl⟩ h
    · replace h := h.2 cc
      refine r_iconst (q := 127) (n := 2) DM_X8_advances_126 rfl ?_
      refine r_goto (q := 131) DM_X8_advances_127 (by decide) ?_
      refine v_put (q := 134) (ji := 11) DM_X8_advances_131 rfl pfRX8_107 sh_83 rfl rfl (Or.inl rfl) (fun μ6 e6 => ?_)
      replace h := h μ6 e6
      exact r_ret (v := none) ⟨DM_X8_advances_134, rfl⟩ h
  · replace h := h.2 cc
    refine r_aloadn (q := 57) DM_X8_advances_56 rfl rfl ?_
    refine r_aloadn (q := 58) DM_X8_advances_57 rfl rfl ?_
    refine v_getI (q := 61) (ji := 9) DM_X8_advances_58 rfl fRX8_95 sh_83 rfl rfl ?_
    refine r_aloadn (q := 62) DM_X8_advances_61 rfl rfl ?_
    refine v_getI (q := 65) (ji := 10) DM_X8_advances_62 rfl fRX8_98 sh_83 rfl rfl ?_
    refine r_isub (q := 66) DM_X8_advances_65 rfl ?_
    refine r_iconst (q := 67) (n := 2) DM_X8_advances_66 rfl ?_
    have i7 := h.1
    replace h := h.2
    refine r_icge (q := 70) (t := 92) DM_X8_advances_67 rfl (by decide) ⟨⟨i7, (by decide)⟩, fun cc => ?_, fun cc => ?_⟩
    · replace h := h.1 cc
      refine r_aloadn (q := 93) DM_X8_advances_92 rfl rfl ?_
      refine v_getI (q := 96) (ji := 12) DM_X8_advances_93 rfl fRX8_104 sh_83 rfl rfl ?_
      refine v_put (q := 99) (ji := 12) DM_X8_advances_96 rfl pfRX8_104 sh_83 rfl rfl (Or.inl rfl) (fun μ8 e8 => ?_)
      replace h := h μ8 e8
      refine r_aloadn (q := 100) DM_X8_advances_99 rfl rfl ?_
      refine r_dup (q := 101) DM_X8_advances_100 rfl ?_
      refine v_getI (q := 104) (ji := 9) DM_X8_advances_101 rfl fRX8_95 sh_83 rfl rfl ?_
      refine r_iconst (q := 105) (n := 1) DM_X8_advances_104 rfl ?_
      refine r_iadd (q := 106) DM_X8_advances_105 rfl ?_
      refine v_put (q := 109) (ji := 9) DM_X8_advances_106 rfl pfRX8_95 sh_83 rfl rfl (Or.inl rfl) (fun μ9 e9 => ?_)
      replace h := h μ9 e9
      refine r_goto (q := 38) DM_X8_advances_109 (by decide) ?_
      exact h
    · replace h := h.2 cc
      refine r_bipush (q := 72) (n := 10) DM_X8_advances_70 rfl (by decide) ?_
      refine r_aloadn (q := 73) DM_X8_advances_72 rfl rfl ?_
      refine v_getI (q := 76) (ji := 12) DM_X8_advances_73 rfl fRX8_104 sh_83 rfl rfl ?_
      refine r_imul (q := 77) DM_X8_advances_76 rfl ?_
      refine r_aloadn (q := 78) DM_X8_advances_77 rfl rfl ?_
      refine r_aloadn (q := 79) DM_X8_advances_78 rfl rfl ?_
      refine v_getI (q := 82) (ji := 9) DM_X8_advances_79 rfl fRX8_95 sh_83 rfl rfl ?_
      refine r_callVi [.inl (μ1 83 9)] (q := 85) DM_X8_advances_82 rfl kM_X8_byteAt lRX8_101 sh_83 rfl rfl (by decide) (Nat.le_of_ble_eq_true rfl) rfl (Cl.imp h (fun vv μ10 h => ?_))
      obtain ⟨v11, hv, h⟩ := h
      refine ⟨v11, hv, ?_⟩
      refine r_iadd (q := 86) DM_X8_advances_85 rfl ?_
      refine r_bipush (q := 88) (n := 48) DM_X8_advances_86 rfl (by decide) ?_
      refine r_isub (q := 89) DM_X8_advances_88 rfl ?_
      refine r_goto (q := 96) DM_X8_advances_89 (by decide) ?_
      refine v_put (q := 99) (ji := 12) DM_X8_advances_96 rfl pfRX8_104 sh_83 rfl rfl (Or.inl rfl) (fun μ12 e12 => ?_)
      replace h := h μ12 e12
      refine r_aloadn (q := 100) DM_X8_advances_99 rfl rfl ?_
      refine r_dup (q := 101) DM_X8_advances_100 rfl ?_
      refine v_getI (q := 104) (ji := 9) DM_X8_advances_101 rfl fRX8_95 sh_83 rfl rfl ?_
      refine r_iconst (q := 105) (n := 1) DM_X8_advances_104 rfl ?_
      refine r_iadd (q := 106) DM_X8_advances_105 rfl ?_
      refine v_put (q := 109) (ji := 9) DM_X8_advances_106 rfl pfRX8_95 sh_83 rfl rfl (Or.inl rfl) (fun μ13 e13 => ?_)
      replace h := h μ13 e13
      refine r_goto (q := 38) DM_X8_advances_109 (by decide) ?_
      exact h
set_option maxRecDepth 20000 in
theorem s_X8_takes {E : Ex} {μ : Mem} {Q : Option Vl → Mem → Prop} {x1 x2 : Int}  (h : Cl E 0 M_X8_isWell [.inr 83] μ (fun vv μ1 => ∃ v2, vv = some (.inl (bi v2)) ∧ (v2 = true → inR x1 ∧ (x1 ≠ 0 → Cl E 1 M_X8_advances [.inr 83] μ1 (fun vv μ4 => vv = none ∧ Q (some (.inl (μ1 83 12))) μ4)) ∧ (x1 = 0 → ∀ μ6 : Mem, μ6 = up μ1 83 8 (μ1 83 10) → ∀ μ7 : Mem, μ7 = up μ6 83 7 x2 → Q (some (.inl 0)) μ7)) ∧ (v2 = false → Q (some (.inl 0)) μ1))) : Cl E 2 M_X8_takes [.inr 83, .inl x1, .inl x2] μ Q := by
  show Gg E 2 M_X8_takes 0 [some (.inr 83), some (.inl x1), some (.inl x2), none] [] μ Q
  refine r_aloadn (q := 1) DM_X8_takes_0 rfl rfl ?_
  refine r_callVi [] (q := 4) DM_X8_takes_1 rfl kM_X8_isWell lRX8_113 sh_83 rfl rfl (by decide) (Nat.le_of_ble_eq_true rfl) rfl (Cl.imp h (fun vv μ1 h => ?_))
  obtain ⟨v2, hv, h⟩ := h
  refine ⟨_, hv, ?_⟩
  refine r_bbne (q := 7) (t := 9) DM_X8_takes_4 rfl (by decide) ⟨fun cc => ?_, fun cc => ?_⟩
  · replace h := h.1 cc
    refine r_iloadn (q := 10) DM_X8_takes_9 rfl rfl ?_
    have i3 := h.1
    replace h := h.2
    refine r_ifne (q := 13) (t := 28) DM_X8_takes_10 rfl (by decide) ⟨i3, fun cc => ?_, fun cc => ?_⟩
    · replace h := h.1 cc
      refine r_aloadn (q := 29) DM_X8_takes_28 rfl rfl ?_
      refine v_getI (q := 32) (ji := 12) DM_X8_takes_29 rfl fRX8_104 sh_83 rfl rfl ?_
      refine v_istoren (q := 33) (ls' := [some (.inr 83), some (.inl x1), some (.inl x2), some (.inl (μ1 83 12))]) DM_X8_takes_32 rfl (by decide) rfl ?_
      refine r_aloadn (q := 34) DM_X8_takes_33 rfl rfl ?_
      refine r_callVv [] (q := 37) DM_X8_takes_34 rfl kM_X8_advances lRX8_120 sh_83 rfl rfl (by decide) (Nat.le_of_ble_eq_true rfl) rfl (Cl.imp h (fun vv μ4 h => ?_))
      obtain ⟨hv, h⟩ := h
      refine ⟨hv, ?_⟩
      refine r_iloadn (q := 38) DM_X8_takes_37 rfl rfl ?_
      exact r_ret (v := some (.inl (μ1 83 12))) ⟨DM_X8_takes_38, Or.inl rfl⟩ h
    · replace h := h.2 cc
      refine r_aloadn (q := 14) DM_X8_takes_13 rfl rfl ?_
      refine r_aloadn (q := 15) DM_X8_takes_14 rfl rfl ?_
      refine v_getI (q := 18) (ji := 10) DM_X8_takes_15 rfl fRX8_98 sh_83 rfl rfl ?_
      refine v_put (q := 21) (ji := 8) DM_X8_takes_18 rfl pfRX8_110 sh_83 rfl rfl (Or.inl rfl) (fun μ6 e6 => ?_)
      replace h := h μ6 e6
      refine r_aloadn (q := 22) DM_X8_takes_21 rfl rfl ?_
      refine r_iloadn (q := 23) DM_X8_takes_22 rfl rfl ?_
      refine v_put (q := 26) (ji := 7) DM_X8_takes_23 rfl pfRX8_117 sh_83 rfl rfl (Or.inl rfl) (fun μ7 e7 => ?_)
      replace h := h μ7 e7
      refine r_iconst (q := 27) (n := 0) DM_X8_takes_26 rfl ?_
      exact r_ret (v := some (.inl 0)) ⟨DM_X8_takes_27, Or.inl rfl⟩ h
  · replace h := h.2 cc
    refine r_iconst (q := 8) (n := 0) DM_X8_takes_7 rfl ?_
    exact r_ret (v := some (.inl 0)) ⟨DM_X8_takes_8, Or.inl rfl⟩ h
set_option maxRecDepth 20000 in
theorem s_X8_takes2 {E : Ex} {μ : Mem} {Q : Option Vl → Mem → Prop} {x1 : Int}  (h : Cl E 0 M_X8_isWell [.inr 83] μ (fun vv μ1 => ∃ v2, vv = some (.inl (bi v2)) ∧ (v2 = false → Q none μ1) ∧ (v2 = true → inR x1 ∧ (x1 ≠ 0 → Q none μ1) ∧ (x1 = 0 → ∀ μ4 : Mem, μ4 = up μ1 83 8 (μ1 83 10) → ∀ μ5 : Mem, μ5 = up μ4 83 7 1 → Q none μ5)))) : Cl E 1 M_X8_takes2 [.inr 83, .inl x1] μ Q := by
  show Gg E 1 M_X8_takes2 0 [some (.inr 83), some (.inl x1)] [] μ Q
  refine r_aloadn (q := 1) DM_X8_takes2_0 rfl rfl ?_
  refine r_callVi [] (q := 4) DM_X8_takes2_1 rfl kM_X8_isWell lRX8_113 sh_83 rfl rfl (by decide) (Nat.le_of_ble_eq_true rfl) rfl (Cl.imp h (fun vv μ1 h => ?_))
  obtain ⟨v2, hv, h⟩ := h
  refine ⟨_, hv, ?_⟩
  refine r_bbeq (q := 7) (t := 24) DM_X8_takes2_4 rfl (by decide) ⟨fun cc => ?_, fun cc => ?_⟩
  · replace h := h.1 cc
    exact r_ret (v := none) ⟨DM_X8_takes2_24, rfl⟩ h
  · replace h := h.2 cc
    refine r_iloadn (q := 8) DM_X8_takes2_7 rfl rfl ?_
    have i3 := h.1
    replace h := h.2
    refine r_ifne (q := 11) (t := 24) DM_X8_takes2_8 rfl (by decide) ⟨i3, fun cc => ?_, fun cc => ?_⟩
    · replace h := h.1 cc
      exact r_ret (v := none) ⟨DM_X8_takes2_24, rfl⟩ h
    · replace h := h.2 cc
      refine r_aloadn (q := 12) DM_X8_takes2_11 rfl rfl ?_
      refine r_aloadn (q := 13) DM_X8_takes2_12 rfl rfl ?_
      refine v_getI (q := 16) (ji := 10) DM_X8_takes2_13 rfl fRX8_98 sh_83 rfl rfl ?_
      refine v_put (q := 19) (ji := 8) DM_X8_takes2_16 rfl pfRX8_110 sh_83 rfl rfl (Or.inl rfl) (fun μ4 e4 => ?_)
      replace h := h μ4 e4
      refine r_aloadn (q := 20) DM_X8_takes2_19 rfl rfl ?_
      refine r_iconst (q := 21) (n := 1) DM_X8_takes2_20 rfl ?_
      refine v_put (q := 24) (ji := 7) DM_X8_takes2_21 rfl pfRX8_117 sh_83 rfl rfl (Or.inl rfl) (fun μ5 e5 => ?_)
      replace h := h μ5 e5
      exact r_ret (v := none) ⟨DM_X8_takes2_24, rfl⟩ h
set_option maxRecDepth 20000 in
theorem s_X8_figure {E : Ex} {μ : Mem} {Q : Option Vl → Mem → Prop} {x1 x2 : Int}  (h : Cl E 0 M_X8_isWell [.inr 83] μ (fun vv μ1 => ∃ v2, vv = some (.inl (bi v2)) ∧ (v2 = false → inR (μ1 83 12) ∧ inR x1 ∧ inR x2 ∧ Cl E 2 M_X8_takes [.inr 83, .inl (bi (decide (x1 ≤ (μ1 83 12) ∧ (μ1 83 12) ≤ x2))), .inl 2] μ1 (fun vv μ6 => ∃ v7, vv = some (.inl v7) ∧ Q (some (.inl v7)) μ6)) ∧ (v2 = true → inR (μ1 83 11) ∧ ((μ1 83 11) = 2 → inR (μ1 83 12) ∧ inR x1 ∧ inR x2 ∧ Cl E 2 M_X8_takes [.inr 83, .inl (bi (decide (x1 ≤ (μ1 83 12) ∧ (μ1 83 12) ≤ x2))), .inl 2] μ1 (fun vv μ12 => ∃ v13, vv = some (.inl v13) ∧ Q (some (.inl v13)) μ12)) ∧ (¬ (μ1 83 11) = 2 → Cl E 2 M_X8_takes [.inr 83, .inl 0, .inl 1] μ1 (fun vv μ14 => ∃ v15, vv = some (.inl v15) ∧ Q (some (.inl v15)) μ14))))) : Cl E 3 M_X8_figure [.inr 83, .inl x1, .inl x2] μ Q := by
  show Gg E 3 M_X8_figure 0 [some (.inr 83), some (.inl x1), some (.inl x2)] [] μ Q
  refine r_aloadn (q := 1) DM_X8_figure_0 rfl rfl ?_
  refine r_callVi [] (q := 4) DM_X8_figure_1 rfl kM_X8_isWell lRX8_113 sh_83 rfl rfl (by decide) (Nat.le_of_ble_eq_true rfl) rfl (Cl.imp h (fun vv μ1 h => ?_))
  obtain ⟨v2, hv, h⟩ := h
  refine ⟨_, hv, ?_⟩
  refine r_bbeq (q := 7) (t := 22) DM_X8_figure_4 rfl (by decide) ⟨fun cc => ?_, fun cc => ?_⟩
  · replace h := h.1 cc
    refine r_aloadn (q := 23) DM_X8_figure_22 rfl rfl ?_
    refine r_aloadn (q := 24) DM_X8_figure_23 rfl rfl ?_
    refine v_getI (q := 27) (ji := 12) DM_X8_figure_24 rfl fRX8_104 sh_83 rfl rfl ?_
    refine r_iloadn (q := 28) DM_X8_figure_27 rfl rfl ?_
    refine r_iloadn (q := 29) DM_X8_figure_28 rfl rfl ?_
    have i3 := h.1
    replace h := h.2
    have i4 := h.1
    replace h := h.2
    have i5 := h.1
    replace h := h.2
    refine r_callSi [.inl (μ1 83 12), .inl x1, .inl x2] (q := 32) DM_X8_figure_29 rfl kM_X8_in lRX8_65 rfl (by decide) (Nat.le_of_ble_eq_true rfl) rfl (k_X8_in i3 i4 i5 ⟨_, rfl, ?_⟩)
    refine r_iconst (q := 33) (n := 2) DM_X8_figure_32 rfl ?_
    refine r_callVi [.inl (bi (decide (x1 ≤ (μ1 83 12) ∧ (μ1 83 12) ≤ x2))), .inl 2] (q := 36) DM_X8_figure_33 rfl kM_X8_takes lRX8_123 sh_83 rfl rfl (by decide) (Nat.le_of_ble_eq_true rfl) rfl (Cl.imp h (fun vv μ6 h => ?_))
    obtain ⟨v7, hv, h⟩ := h
    refine ⟨v7, hv, ?_⟩
    exact r_ret (v := some (.inl v7)) ⟨DM_X8_figure_36, Or.inl rfl⟩ h
  · replace h := h.2 cc
    refine r_aloadn (q := 8) DM_X8_figure_7 rfl rfl ?_
    refine v_getI (q := 11) (ji := 11) DM_X8_figure_8 rfl fRX8_107 sh_83 rfl rfl ?_
    refine r_iconst (q := 12) (n := 2) DM_X8_figure_11 rfl ?_
    have i8 := h.1
    replace h := h.2
    refine r_iceq (q := 15) (t := 22) DM_X8_figure_12 rfl (by decide) ⟨⟨i8, (by decide)⟩, fun cc => ?_, fun cc => ?_⟩
    · replace h := h.1 cc
      refine r_aloadn (q := 23) DM_X8_figure_22 rfl rfl ?_
      refine r_aloadn (q := 24) DM_X8_figure_23 rfl rfl ?_
      refine v_getI (q := 27) (ji := 12) DM_X8_figure_24 rfl fRX8_104 sh_83 rfl rfl ?_
      refine r_iloadn (q := 28) DM_X8_figure_27 rfl rfl ?_
      refine r_iloadn (q := 29) DM_X8_figure_28 rfl rfl ?_
      have i9 := h.1
      replace h := h.2
      have i10 := h.1
      replace h := h.2
      have i11 := h.1
      replace h := h.2
      refine r_callSi [.inl (μ1 83 12), .inl x1, .inl x2] (q := 32) DM_X8_figure_29 rfl kM_X8_in lRX8_65 rfl (by decide) (Nat.le_of_ble_eq_true rfl) rfl (k_X8_in i9 i10 i11 ⟨_, rfl, ?_⟩)
      refine r_iconst (q := 33) (n := 2) DM_X8_figure_32 rfl ?_
      refine r_callVi [.inl (bi (decide (x1 ≤ (μ1 83 12) ∧ (μ1 83 12) ≤ x2))), .inl 2] (q := 36) DM_X8_figure_33 rfl kM_X8_takes lRX8_123 sh_83 rfl rfl (by decide) (Nat.le_of_ble_eq_true rfl) rfl (Cl.imp h (fun vv μ12 h => ?_))
      obtain ⟨v13, hv, h⟩ := h
      refine ⟨v13, hv, ?_⟩
      exact r_ret (v := some (.inl v13)) ⟨DM_X8_figure_36, Or.inl rfl⟩ h
    · replace h := h.2 cc
      refine r_aloadn (q := 16) DM_X8_figure_15 rfl rfl ?_
      refine r_iconst (q := 17) (n := 0) DM_X8_figure_16 rfl ?_
      refine r_iconst (q := 18) (n := 1) DM_X8_figure_17 rfl ?_
      refine r_callVi [.inl 0, .inl 1] (q := 21) DM_X8_figure_18 rfl kM_X8_takes lRX8_123 sh_83 rfl rfl (by decide) (Nat.le_of_ble_eq_true rfl) rfl (Cl.imp h (fun vv μ14 h => ?_))
      obtain ⟨v15, hv, h⟩ := h
      refine ⟨v15, hv, ?_⟩
      exact r_ret (v := some (.inl v15)) ⟨DM_X8_figure_21, Or.inl rfl⟩ h
def tkOK (T : Int → Int) (n : Int) : Prop := (0 ≤ n ∧ n ≤ 120) ∧ ∀ j, 0 ≤ j → j < n → 0 ≤ T j ∧ T j ≤ 255
def isF (T : Int → Int) (n k : Int) : Bool := decide (k < n ∧ 48 ≤ T k ∧ T k ≤ 57)
def fEnd (T : Int → Int) (n : Int) : Nat → Int → Int
  | 0, a => a
  | m + 1, a => if isF T n a then fEnd T n m (a + 1) else a
def tkT (T : Int → Int) (n a : Int) : Int := if n ≤ a then -1 else if isF T n a then (if fEnd T n 120 a - a ≤ 2 then -2 else -3) else T a
def tkN (T : Int → Int) (n a : Int) : Int := if n ≤ a then a else if isF T n a then fEnd T n 120 a else a + 1
def tkV (T : Int → Int) (n a : Int) : Int := if isF T n (a + 1) then (T a - 48) * 10 + T (a + 1) - 48 else T a - 48
theorem isF_t {T : Int → Int} {n k : Int} (h : isF T n k = true) : k < n ∧ 48 ≤ T k ∧ T k ≤ 57 := of_decide_eq_true h
theorem isF_f {T : Int → Int} {n k : Int} (h : isF T n k = false) : ¬ (k < n ∧ 48 ≤ T k ∧ T k ≤ 57) := of_decide_eq_false h
theorem fEnd_run {T : Int → Int} {n : Int} (m : Nat) : ∀ (k : Nat) (a : Int), (∀ j : Nat, j < k → isF T n (a + j) = true) → fEnd T n (k + m) a = fEnd T n m (a + k)
  | 0, a, _ => by rw [Nat.zero_add]; simp
  | k + 1, a, h => by
    have h0 := h 0 (by omega)
    rw [show a + ((0 : Nat) : Int) = a by omega] at h0
    rw [show k + 1 + m = (k + m) + 1 by omega, fEnd, if_pos h0, fEnd_run m k (a + 1) (fun j hj => by
      have := h (j + 1) (by omega)
      rwa [show a + ((j + 1 : Nat) : Int) = a + 1 + (j : Int) by omega] at this)]
    congr 1; omega
theorem fEnd_stop {T : Int → Int} {n a : Int} (m : Nat) (h : isF T n a = false) : fEnd T n m a = a := by
  cases m with
  | zero => rfl
  | succ m => rw [fEnd, h]; rfl
theorem fEnd_rng {T : Int → Int} {n : Int} : ∀ (m : Nat) (a : Int), a ≤ n → a ≤ fEnd T n m a ∧ fEnd T n m a ≤ n
  | 0, a, h => ⟨Int.le_refl _, h⟩
  | m + 1, a, h => by
    rw [fEnd]
    split
    · next c =>
      have := isF_t c
      have := fEnd_rng (T := T) (n := n) m (a + 1) (by omega)
      omega
    · omega
theorem tkN_rng {T : Int → Int} {n a : Int} (h0 : 0 ≤ a) (h : a ≤ n) : a ≤ tkN T n a ∧ tkN T n a ≤ n ∧ (a < n → a < tkN T n a) := by
  unfold tkN
  split
  · omega
  · split
    · next c =>
      have := isF_t c
      have h1 : fEnd T n 120 a = fEnd T n 119 (a + 1) := by rw [fEnd, if_pos c]
      have := fEnd_rng (T := T) (n := n) 119 (a + 1) (by omega)
      omega
    · omega
theorem tkT_rng {T : Int → Int} {n a : Int} (hT : tkOK T n) (h0 : 0 ≤ a) : -3 ≤ tkT T n a ∧ tkT T n a ≤ 255 := by
  unfold tkT
  split
  · omega
  · split
    · split <;> omega
    · have := hT.2 a h0 (by omega); omega
theorem tkT_end {T : Int → Int} {n a : Int} (hT : tkOK T n) (h0 : 0 ≤ a) : tkT T n a = -1 ↔ n ≤ a := by
  unfold tkT
  split
  · exact ⟨fun _ => by assumption, fun _ => rfl⟩
  · split
    · split <;> exact ⟨fun z => absurd z (by decide), fun z => absurd z (by assumption)⟩
    · have := hT.2 a h0 (by omega); omega
def C7 (T : Int → Int) (n : Int) (μ : Mem) (a : Int) : Prop := (μ 2 1 = n ∧ ∀ j, 0 ≤ j → j < n → μ 3 j = T j) ∧ μ 2 5 = a ∧ μ 2 6 = tkT T n a ∧ (tkT T n a = -2 → μ 2 7 = tkV T n a) ∧ μ 2 4 = tkN T n a
def rTk (t : Int) : Int := if t = -1 then 0 else if t = -2 then 2 else if t = -3 then 5 else if 97 ≤ t ∧ t ≤ 122 then 1 else if t = 44 then 3 else if t = 59 then 4 else 5
def C8 (T : Int → Int) (n : Int) (μ : Mem) (a : Int) : Prop := (μ 83 6 = n ∧ ∀ j, 0 ≤ j → j < n → μ 88 j = T j) ∧ μ 83 10 = a ∧ μ 83 11 = rTk (tkT T n a) ∧ ((tkT T n a = -2 → μ 83 12 = tkV T n a) ∧ (0 ≤ tkT T n a → μ 83 12 = tkT T n a) ∧ (-1 ≤ μ 83 12 ∧ μ 83 12 ≤ 255)) ∧ μ 83 9 = tkN T n a
section P62
variable {E : Ex} {μ : Mem} {Q : Option Vl → Mem → Prop} {T : Int → Int} {n a x1 x2 : Int}
theorem k_X4_isFigureAt (hT : tkOK T n) (h1 : μ 2 1 = n) (h3 : ∀ j, 0 ≤ j → j < n → μ 3 j = T j) (h0 : 0 ≤ x1 ∧ x1 ≤ 1000) (h : Q (some (.inl (bi (isF T n x1)))) μ) : Cl E 0 M_X4_isFigureAt [.inr 2, .inl x1] μ Q := by
  have hn := hT.1
  unfold isF at h
  refine s_X4_isFigureAt ⟨by omega, by omega, fun z => ?_, fun z => ?_⟩
  · rwa [decide_eq_false (by omega)] at h
  · have e := h3 x1 h0.1 (by omega)
    have r := hT.2 x1 h0.1 (by omega)
    refine ⟨by omega, by omega, fun c => ?_, fun c => ⟨fun c2 => ?_, fun c2 => ?_⟩⟩
    · rwa [decide_eq_false (by omega)] at h
    · rwa [decide_eq_false (by omega)] at h
    · rwa [decide_eq_true (by omega)] at h
theorem k_X4_step (hT : tkOK T n) (h1 : μ 2 1 = n) (h3 : ∀ j, 0 ≤ j → j < n → μ 3 j = T j) (h4 : μ 2 4 = a) (h0 : 0 ≤ a ∧ a ≤ n) (h : ∀ μ1 : Mem, C7 T n μ1 a → (∀ k, k ≠ 2 → μ1 k = μ k) → Q none μ1) : Cl E 1 M_X4_step [.inr 2] μ Q := by
  have hn := hT.1
  refine s_X4_step (fun μ1 e1 => ?_)
  have f4 : μ1 2 4 = a := by rw [e1, up_off (Or.inr (by decide)), h4]
  have f1 : μ1 2 1 = n := by rw [e1, up_off (Or.inr (by decide)), h1]
  have f5 : μ1 2 5 = a := by rw [e1, up_self, h4]
  have f3 : ∀ j, 0 ≤ j → j < n → μ1 3 j = T j := fun j j0 j1 => by rw [e1, up_ne (by decide)]; exact h3 j j0 j1
  have fk : ∀ k, k ≠ 2 → μ1 k = μ k := fun k hk => by rw [e1, up_ne hk]
  rw [f4, f1]
  refine ⟨by omega, by omega, fun z => k_X4_isFigureAt hT f1 f3 (by omega) ⟨_, rfl, fun q μ6 e6 => ?_, fun q => ?_⟩, fun z μ10 e10 => h μ10 ⟨⟨?_, fun j j0 j1 => ?_⟩, ?_, ?_, ?_, ?_⟩ (fun k hk => by rw [e10, up_ne hk, fk k hk])⟩
  rotate_left 2
  · rw [e10, up_off (Or.inr (by decide)), f1]
  · rw [e10, up_ne (by decide)]; exact f3 j j0 j1
  · rw [e10, up_off (Or.inr (by decide)), f5]
  · rw [e10, up_self]; unfold tkT; rw [if_pos (by omega)]
  · intro q; unfold tkT at q; rw [if_pos (by omega)] at q; exact absurd q (by decide)
  · rw [e10, up_off (Or.inr (by decide)), f4]; unfold tkN; rw [if_pos (by omega)]
  · -- a run of figures
    have g0 : μ6 2 7 = 0 := by rw [e6, up_self]
    suffices hh : ∀ (m k : Nat), k + m = 120 → ∀ μ' : Mem, μ' 2 1 = n → (∀ j, 0 ≤ j → j < n → μ' 3 j = T j) → μ' 2 5 = a → μ' 2 4 = a + k → (∀ j : Nat, j < k → isF T n (a + j) = true) → μ' 2 7 = (if k = 0 then 0 else if k = 1 then T a - 48 else (T a - 48) * 10 + T (a + 1) - 48) → (∀ i, i ≠ 2 → μ' i = μ i) → Gg E 1 M_X4_step 67 [some (.inr 2), some (.inl ((k : Nat) : Int))] [] μ' Q from
      hh 120 0 rfl μ6 (by rw [e6, up_off (Or.inr (by decide)), f1]) (fun j j0 j1 => by rw [e6, up_ne (by decide)]; exact f3 j j0 j1) (by rw [e6, up_off (Or.inr (by decide)), f5]) (by rw [e6, up_off (Or.inr (by decide)), f4]; simp) (fun j hj => absurd hj (Nat.not_lt_zero j)) (by rw [g0]; rfl) (fun i hi => by rw [e6, up_ne hi, fk i hi])
    have fin : ∀ (k : Nat) (μ' μ9 : Mem) (w : Int), k ≤ 120 → 1 ≤ k → fEnd T n 120 a = a + k → μ' 2 1 = n → (∀ j, 0 ≤ j → j < n → μ' 3 j = T j) → μ' 2 5 = a → μ' 2 4 = a + k → (∀ j : Nat, j < k → isF T n (a + j) = true) → μ' 2 7 = (if k = 0 then 0 else if k = 1 then T a - 48 else (T a - 48) * 10 + T (a + 1) - 48) → (∀ i, i ≠ 2 → μ' i = μ i) → isF T n (a + k) = false → w = (if (k : Int) ≤ 2 then -2 else -3) → μ9 = up μ' 2 6 w → Q none μ9 := by
      intro k μ' μ9 w k120 k1 hfe c1 c3 c5 c4 cf c7 co cn ew e9
      refine h μ9 ⟨⟨?_, fun j j0 j1 => ?_⟩, ?_, ?_, fun qq => ?_, ?_⟩ (fun i hi => by rw [e9, up_ne hi, co i hi])
      · rw [e9, up_off (Or.inr (by decide)), c1]
      · rw [e9, up_ne (by decide)]; exact c3 j j0 j1
      · rw [e9, up_off (Or.inr (by decide)), c5]
      · rw [e9, up_self, ew]
        by_cases hk : (k : Int) ≤ 2
        · rw [if_pos hk]
          unfold tkT
          rw [if_neg (by omega), if_pos q, hfe, if_pos (by omega)]
        · rw [if_neg hk]
          unfold tkT
          rw [if_neg (by omega), if_pos q, hfe, if_neg (by omega)]
      · unfold tkT at qq
        rw [if_neg (by omega), if_pos q, hfe] at qq
        have hk : (k : Int) ≤ 2 := by
          by_cases hk : a + (k : Int) - a ≤ 2
          · omega
          · rw [if_neg hk] at qq; exact absurd qq (by decide)
        rw [e9, up_off (Or.inr (by decide)), c7]
        unfold tkV
        rcases (show k = 1 ∨ k = 2 by omega) with e | e <;> subst e
        · rw [if_neg (by decide), if_pos rfl, show isF T n (a + 1) = false from cn]; rfl
        · have := cf 1 (by decide)
          rw [if_neg (by decide), if_neg (by decide), if_pos (show isF T n (a + 1) = true from this)]
      · rw [e9, up_off (Or.inr (by decide)), c4]
        unfold tkN
        rw [if_neg (by omega), if_pos q, hfe]
    intro m
    induction m with
    | zero =>
      intro k hk μ' c1 c3 c5 c4 cf c7 co
      have hk' : k = 120 := by omega
      subst hk'
      have l := isF_t (cf 119 (by decide))
      have y : isF T n (a + ((120 : Nat) : Int)) = false := decide_eq_false (by omega)
      have hfe : fEnd T n 120 a = a + ((120 : Nat) : Int) := fEnd_run 0 120 a cf
      refine s_X4_step_67 ⟨by decide, fun _ => ?_, fun z => absurd (by decide) z⟩
      rw [c4, c5]
      exact ⟨by omega, fun y2 => absurd y2 (by omega), fun y2 μ8 e8 => fin 120 μ' μ8 (-3) (by omega) (by decide) hfe c1 c3 c5 c4 cf c7 co y (by rw [if_neg (by omega)]) e8⟩
    | succ m ih =>
      intro k hk μ' c1 c3 c5 c4 cf c7 co
      have hb : a + (k : Int) ≤ n := by
        by_cases e : k = 0
        · subst e; omega
        · have l := isF_t (cf (k - 1) (by omega))
          omega
      refine s_X4_step_67 ?_
      rw [c4]
      refine ⟨by omega, fun y => absurd y (by omega), fun _ => k_X4_isFigureAt hT c1 c3 (by omega) ⟨_, rfl, fun y => ?_, fun y => ?_⟩⟩
      · have hk1 : 1 ≤ k := by
          by_cases e : k = 0
          · subst e
            rw [show a + ((0 : Nat) : Int) = a by omega] at y
            rw [y] at q; exact absurd q (by decide)
          · omega
        have hfe : fEnd T n 120 a = a + k := by rw [show 120 = k + (m + 1) by omega, fEnd_run (m + 1) k a cf, fEnd_stop _ y]
        rw [c4, c5]
        exact ⟨by omega, fun y2 μ8 e8 => fin k μ' μ8 (-2) (by omega) hk1 hfe c1 c3 c5 c4 cf c7 co y (by rw [if_pos (by omega)]) e8, fun y2 μ8 e8 => fin k μ' μ8 (-3) (by omega) hk1 hfe c1 c3 c5 c4 cf c7 co y (by rw [if_neg (by omega)]) e8⟩
      · have l := isF_t y
        have cf' : ∀ j : Nat, j < k + 1 → isF T n (a + j) = true := fun j hj => by
          by_cases e : j = k
          · subst e; exact y
          · exact cf j (by omega)
        rw [c4]
        refine ⟨fun y2 μ10 e10 => ?_, fun y2 => ⟨by omega, fun μ12 e12 μ13 e13 => ?_⟩⟩
        · have := ih (k + 1) (by omega) μ10 (by rw [e10, up_off (Or.inr (by decide)), c1]) (fun j j0 j1 => by rw [e10, up_ne (by decide)]; exact c3 j j0 j1) (by rw [e10, up_off (Or.inr (by decide)), c5]) (by rw [e10, up_self]; omega) cf' (by rw [e10, up_off (Or.inr (by decide)), c7, if_neg (by omega), if_neg (by omega), if_neg (by omega), if_neg (by omega)]) (fun i hi => by rw [e10, up_ne hi, co i hi])
          rwa [show (((k + 1 : Nat)) : Int) = (k : Int) + 1 by omega] at this
        · have t := c3 (a + k) (by omega) (by omega)
          have := ih (k + 1) (by omega) μ13 (by rw [e13, up_off (Or.inr (by decide)), e12, up_off (Or.inr (by decide)), c1]) (fun j j0 j1 => by rw [e13, up_ne (by decide), e12, up_ne (by decide)]; exact c3 j j0 j1) (by rw [e13, up_off (Or.inr (by decide)), e12, up_off (Or.inr (by decide)), c5]) (by rw [e13, up_self, e12, up_off (Or.inr (by decide)), c4]; omega) cf' ?_ (fun i hi => by rw [e13, up_ne hi, e12, up_ne hi, co i hi])
          · rwa [show (((k + 1 : Nat)) : Int) = (k : Int) + 1 by omega] at this
          · rw [e13, up_off (Or.inr (by decide)), e12, up_self, c7, t]
            rcases (show k = 0 ∨ k = 1 by omega) with e | e <;> subst e
            · rw [if_pos rfl, if_neg (by decide), if_pos rfl, show a + ((0 : Nat) : Int) = a by omega]; omega
            · rw [if_neg (by decide), if_pos rfl, if_neg (by decide), if_neg (by decide)]; rfl
  · have nf := isF_f q
    rw [f4]
    refine ⟨by omega, fun μ8 e8 μ9 e9 => h μ9 ⟨⟨?_, fun j j0 j1 => ?_⟩, ?_, ?_, fun qq => ?_, ?_⟩ (fun k hk => by rw [e9, up_ne hk, e8, up_ne hk, fk k hk])⟩
    · rw [e9, up_off (Or.inr (by decide)), e8, up_off (Or.inr (by decide)), f1]
    · rw [e9, up_ne (by decide), e8, up_ne (by decide)]; exact f3 j j0 j1
    · rw [e9, up_off (Or.inr (by decide)), e8, up_off (Or.inr (by decide)), f5]
    · rw [e9, up_off (Or.inr (by decide)), e8, up_self, f3 a (by omega) (by omega)]
      unfold tkT
      rw [if_neg (by omega), q]; rfl
    · unfold tkT at qq
      have r := hT.2 a (by omega) (by omega)
      rw [if_neg (by omega), q] at qq
      exact absurd (show T a = -2 from qq) (by omega)
    · rw [e9, up_self, e8, up_off (Or.inr (by decide)), f4]
      unfold tkN
      rw [if_neg (by omega), q]; rfl
theorem k_X8_byteAt (hT : tkOK T n) (h1 : μ 83 6 = n) (h3 : ∀ j, 0 ≤ j → j < n → μ 88 j = T j) (h0 : 0 ≤ x1 ∧ x1 ≤ 1000) (h : Q (some (.inl (if n ≤ x1 then -1 else T x1))) μ) : Cl E 0 M_X8_byteAt [.inr 83, .inl x1] μ Q := by
  have hn := hT.1
  refine s_X8_byteAt ⟨by omega, by omega, fun z => ?_, fun z => ⟨by omega, ?_⟩⟩
  · rwa [if_pos (by omega)] at h
  · rw [h3 x1 h0.1 (by omega)]; rwa [if_neg (by omega)] at h
theorem isF_b (hT : tkOK T n) (h0 : 0 ≤ a) : (48 ≤ (if n ≤ a then -1 else T a) ∧ (if n ≤ a then -1 else T a) ≤ 57) ↔ isF T n a = true := by
  by_cases c : n ≤ a
  · rw [if_pos c]; exact ⟨fun q => absurd q.1 (by decide), fun q => by have := isF_t q; omega⟩
  · rw [if_neg c]; exact ⟨fun q => decide_eq_true ⟨by omega, q⟩, fun q => (isF_t q).2⟩
/-- the reference alone has changed, where it keeps the token -/
def avR (μ μ1 : Mem) : Prop := (∀ k, k ≠ 83 → μ1 k = μ k) ∧ ∀ i, (i < 9 ∨ 12 < i) → μ1 83 i = μ 83 i
theorem k_X8_advances (hT : tkOK T n) (h1 : μ 83 6 = n) (h3 : ∀ j, 0 ≤ j → j < n → μ 88 j = T j) (h4 : μ 83 9 = a) (h0 : 0 ≤ a ∧ a ≤ n) (h : ∀ μ1 : Mem, C8 T n μ1 a → avR μ μ1 → Q none μ1) : Cl E 1 M_X8_advances [.inr 83] μ Q := by
  have hn := hT.1
  refine s_X8_advances (fun μ1 e1 => ?_)
  have f9 : μ1 83 9 = a := by rw [e1, up_off (Or.inr (by decide)), h4]
  have f6 : μ1 83 6 = n := by rw [e1, up_off (Or.inr (by decide)), h1]
  have f10 : μ1 83 10 = a := by rw [e1, up_self, h4]
  have f3 : ∀ j, 0 ≤ j → j < n → μ1 88 j = T j := fun j j0 j1 => by rw [e1, up_ne (by decide)]; exact h3 j j0 j1
  have fr : avR μ μ1 := ⟨fun k hk => by rw [e1, up_ne hk], fun i hi => by rw [e1, up_off (Or.inr (by omega))]⟩
  rw [f9]
  refine k_X8_byteAt hT f6 f3 (by omega) ⟨_, rfl, fun μ4 e4 => ?_⟩
  have ib := isF_b hT h0.1
  obtain ⟨b, eb⟩ : ∃ b, b = (if n ≤ a then -1 else T a) := ⟨_, rfl⟩
  rw [← eb] at ib e4 ⊢
  have br : -1 ≤ b ∧ b ≤ 255 ∧ (b = -1 ↔ n ≤ a) ∧ (a < n → b = T a) := by
    by_cases c : n ≤ a
    · rw [if_pos c] at eb; omega
    · rw [if_neg c] at eb
      have := hT.2 a h0.1 (by omega)
      omega
  have one : isF T n a = false → ∀ (μ6 μ8 : Mem) (w s : Int), w = rTk (tkT T n a) → s = (if b = -1 then 0 else 1) → μ6 = up μ4 83 11 w → μ8 = up μ6 83 9 (μ6 83 9 + s) → Q none μ8 := by
    intro hf μ6 μ8 w s ew es e6 e8
    have et : tkT T n a = b := by
      unfold tkT
      by_cases c : n ≤ a
      · rw [if_pos c]; omega
      · rw [if_neg c, hf]; show T a = b; omega
    refine h μ8 ⟨⟨?_, fun j j0 j1 => ?_⟩, ?_, ?_, ⟨fun qq => ?_, fun qq => ?_, ?_⟩, ?_⟩ ⟨fun k hk => ?_, fun i hi => ?_⟩
    · rw [e8, up_off (Or.inr (by decide)), e6, up_off (Or.inr (by decide)), e4, up_off (Or.inr (by decide)), f6]
    · rw [e8, up_ne (by decide), e6, up_ne (by decide), e4, up_ne (by decide)]; exact f3 j j0 j1
    · rw [e8, up_off (Or.inr (by decide)), e6, up_off (Or.inr (by decide)), e4, up_off (Or.inr (by decide)), f10]
    · rw [e8, up_off (Or.inr (by decide)), e6, up_self, ew]
    · omega
    · rw [e8, up_off (Or.inr (by decide)), e6, up_off (Or.inr (by decide)), e4, up_self, et]
    · rw [e8, up_off (Or.inr (by decide)), e6, up_off (Or.inr (by decide)), e4, up_self]; omega
    · rw [e8, up_self, e6, up_off (Or.inr (by decide)), e4, up_off (Or.inr (by decide)), f9, es]
      unfold tkN
      by_cases c : n ≤ a
      · rw [if_pos (show b = -1 by omega), if_pos c]; omega
      · rw [if_neg (show ¬ b = -1 by omega), if_neg c, hf]; rfl
    · rw [e8, up_ne hk, e6, up_ne hk, e4, up_ne hk]; exact fr.1 k hk
    · rw [e8, up_off (Or.inr (by omega)), e6, up_off (Or.inr (by omega)), e4, up_off (Or.inr (by omega))]; exact fr.2 i hi
  have two : isF T n a = false → ∀ w : Int, w = rTk (tkT T n a) → (w = 0 ↔ b = -1) → -100 ≤ w ∧ w ≤ 100 → ∀ μ6 : Mem, μ6 = up μ4 83 11 w → inR (μ6 83 11) ∧ ((μ6 83 11) ≠ 0 → ∀ μ8 : Mem, μ8 = up μ6 83 9 ((μ6 83 9) + 1) → Q none μ8) ∧ ((μ6 83 11) = 0 → ∀ μ9 : Mem, μ9 = up μ6 83 9 ((μ6 83 9) + 0) → Q none μ9) := by
    intro hf w ew hw wr μ6 e6
    have e11 : μ6 83 11 = w := by rw [e6, up_self]
    rw [e11]
    exact ⟨by omega, fun y μ8 e8 => one hf μ6 μ8 w 1 ew (by rw [if_neg (by omega)]) e6 e8, fun y μ8 e8 => one hf μ6 μ8 w 0 ew (by rw [if_pos (by omega)]) e6 e8⟩
  have tt : isF T n a = false → tkT T n a = b := fun hf => by
    unfold tkT
    by_cases c : n ≤ a
    · rw [if_pos c]; omega
    · rw [if_neg c, hf]; show T a = b; omega
  refine ⟨by omega, fun y => ?_, fun y μ26 e26 => ?_⟩
  · have hf : isF T n a = false := by
      cases e : isF T n a
      · rfl
      · exact absurd (ib.2 e) y
    have et := tt hf
    unfold rTk at two
    rw [et] at two
    refine ⟨fun y1 => ⟨fun y2 => ⟨fun y3 => ⟨fun y4 => ?_, fun y4 => ?_⟩, fun y3 => ?_⟩, fun y2 => ?_⟩, fun y1 => ?_⟩
    · exact two hf 5 (by rw [if_neg (by omega), if_neg (by omega), if_neg (by omega), if_neg y2, if_neg y3, if_neg y4]) (by omega) (by decide)
    · exact two hf 4 (by rw [if_neg (by omega), if_neg (by omega), if_neg (by omega), if_neg y2, if_neg y3, if_pos y4]) (by omega) (by decide)
    · exact two hf 3 (by rw [if_neg (by omega), if_neg (by omega), if_neg (by omega), if_neg y2, if_pos y3]) (by omega) (by decide)
    · exact two hf 1 (by rw [if_neg (by omega), if_neg (by omega), if_neg (by omega), if_pos y2]) (by omega) (by decide)
    · exact two hf 0 (by rw [if_pos (by omega)]) (by omega) (by decide)
  · have q : isF T n a = true := ib.1 y
    have la := isF_t q
    have loop : ∀ (m k : Nat), a + k + m = n → ∀ μ' : Mem, μ' 83 6 = n → (∀ j, 0 ≤ j → j < n → μ' 88 j = T j) → μ' 83 10 = a → μ' 83 9 = a + k → (∀ j : Nat, j < k → isF T n (a + j) = true) → μ' 83 12 = (if k = 0 then 0 else if k = 1 then T a - 48 else (T a - 48) * 10 + T (a + 1) - 48) → avR μ μ' → Gg E 1 M_X8_advances 38 [some (.inr 83), some (.inl b)] [] μ' Q := by
      intro m
      have fin : ∀ (k : Nat) (μ' μ9 : Mem) (w : Int), k ≤ 120 → 1 ≤ k → fEnd T n 120 a = a + k → μ' 83 6 = n → (∀ j, 0 ≤ j → j < n → μ' 88 j = T j) → μ' 83 10 = a → μ' 83 9 = a + k → (∀ j : Nat, j < k → isF T n (a + j) = true) → μ' 83 12 = (if k = 0 then 0 else if k = 1 then T a - 48 else (T a - 48) * 10 + T (a + 1) - 48) → avR μ μ' → isF T n (a + k) = false → w = (if (k : Int) ≤ 2 then 2 else 5) → μ9 = up μ' 83 11 w → Q none μ9 := by
        intro k μ' μ9 w k120 k1 hfe c1 c3 c5 c4 cf c7 co cn ew e9
        have et : tkT T n a = if (k : Int) ≤ 2 then -2 else -3 := by
          unfold tkT
          rw [if_neg (by omega), if_pos q, hfe]
          by_cases hk : (k : Int) ≤ 2
          · rw [if_pos hk, if_pos (by omega)]
          · rw [if_neg hk, if_neg (by omega)]
        have dg : ∀ j : Nat, j < k → 48 ≤ T (a + j) ∧ T (a + j) ≤ 57 := fun j hj => (isF_t (cf j hj)).2
        have d0 := dg 0 (by omega)
        rw [show a + ((0 : Nat) : Int) = a by omega] at d0
        refine h μ9 ⟨⟨?_, fun j j0 j1 => ?_⟩, ?_, ?_, ⟨fun qq => ?_, fun qq => ?_, ?_⟩, ?_⟩ ⟨fun i hi => ?_, fun i hi => ?_⟩
        · rw [e9, up_off (Or.inr (by decide)), c1]
        · rw [e9, up_ne (by decide)]; exact c3 j j0 j1
        · rw [e9, up_off (Or.inr (by decide)), c5]
        · rw [e9, up_self, ew, et]
          by_cases hk : (k : Int) ≤ 2
          · rw [if_pos hk, if_pos hk]; rfl
          · rw [if_neg hk, if_neg hk]; rfl
        · have hk : (k : Int) ≤ 2 := by
            by_cases hk : (k : Int) ≤ 2
            · exact hk
            · rw [et, if_neg hk] at qq; exact absurd qq (by decide)
          rw [e9, up_off (Or.inr (by decide)), c7]
          unfold tkV
          rcases (show k = 1 ∨ k = 2 by omega) with e | e <;> subst e
          · rw [if_neg (by decide), if_pos rfl, show isF T n (a + 1) = false from cn]; rfl
          · have := cf 1 (by decide)
            rw [if_neg (by decide), if_neg (by decide), if_pos (show isF T n (a + 1) = true from this)]
        · rw [et] at qq
          by_cases hk : (k : Int) ≤ 2
          · rw [if_pos hk] at qq; omega
          · rw [if_neg hk] at qq; omega
        · rw [e9, up_off (Or.inr (by decide)), c7, if_neg (by omega)]
          by_cases hk : k = 1
          · rw [if_pos hk]; omega
          · have d1 := dg 1 (by omega)
            replace d1 : 48 ≤ T (a + 1) ∧ T (a + 1) ≤ 57 := d1
            rw [if_neg hk]; omega
        · rw [e9, up_off (Or.inr (by decide)), c4]
          unfold tkN
          rw [if_neg (by omega), if_pos q, hfe]
        · rw [e9, up_ne hi]; exact co.1 i hi
        · rw [e9, up_off (Or.inr (by omega))]; exact co.2 i hi
      induction m with
      | zero =>
        intro k hk μ' c1 c3 c5 c4 cf c7 co
        have hk1 : 1 ≤ k := by omega
        have y2 : isF T n (a + k) = false := decide_eq_false (by omega)
        have hfe : fEnd T n 120 a = a + k := by rw [show 120 = k + (120 - k) by omega, fEnd_run (120 - k) k a cf, fEnd_stop _ y2]
        refine s_X8_advances_38 ?_
        rw [c4]
        refine k_X8_byteAt hT c1 c3 (by omega) ⟨_, rfl, ?_⟩
        rw [if_pos (show n ≤ a + (k : Int) by omega), c4, c5]
        exact ⟨by decide, fun _ => ⟨by omega, fun y4 μ5 e5 => fin k μ' μ5 5 (by omega) hk1 hfe c1 c3 c5 c4 cf c7 co y2 (by rw [if_neg (by omega)]) e5, fun y4 μ5 e5 => fin k μ' μ5 2 (by omega) hk1 hfe c1 c3 c5 c4 cf c7 co y2 (by rw [if_pos (by omega)]) e5⟩, fun y4 => absurd y4.1 (by decide)⟩
      | succ m ih =>
        intro k hk μ' c1 c3 c5 c4 cf c7 co
        have bk := isF_b hT (show 0 ≤ a + (k : Int) by omega)
        rw [if_neg (show ¬ n ≤ a + (k : Int) by omega)] at bk
        have tr := hT.2 (a + k) (by omega) (by omega)
        refine s_X8_advances_38 ?_
        rw [c4]
        refine k_X8_byteAt hT c1 c3 (by omega) ⟨_, rfl, ?_⟩
        rw [if_neg (show ¬ n ≤ a + (k : Int) by omega), c4, c5]
        refine ⟨by omega, fun y4 => ?_, fun y4 => ?_⟩
        · have y2 : isF T n (a + k) = false := by
            cases e : isF T n (a + k)
            · rfl
            · exact absurd (bk.2 e) y4
          have hk1 : 1 ≤ k := by
            by_cases e : k = 0
            · subst e
              rw [show a + ((0 : Nat) : Int) = a by omega] at y2
              rw [y2] at q; exact absurd q (by decide)
            · omega
          have hfe : fEnd T n 120 a = a + k := by rw [show 120 = k + (120 - k) by omega, fEnd_run (120 - k) k a cf, fEnd_stop _ y2]
          exact ⟨by omega, fun y5 μ5 e5 => fin k μ' μ5 5 (by omega) hk1 hfe c1 c3 c5 c4 cf c7 co y2 (by rw [if_neg (by omega)]) e5, fun y5 μ5 e5 => fin k μ' μ5 2 (by omega) hk1 hfe c1 c3 c5 c4 cf c7 co y2 (by rw [if_pos (by omega)]) e5⟩
        · have y2 := bk.1 y4
          have cf' : ∀ j : Nat, j < k + 1 → isF T n (a + j) = true := fun j hj => by
            by_cases e : j = k
            · subst e; exact y2
            · exact cf j (by omega)
          refine ⟨by omega, fun y5 μ8 e8 μ9 e9 => ?_, fun y5 => k_X8_byteAt hT c1 c3 (by omega) ⟨_, rfl, fun μ12 e12 μ13 e13 => ?_⟩⟩
          · have s8 : μ8 83 = μ' 83 := by
              funext i
              rw [e8]
              by_cases e : i = 12
              · subst e; rw [up_self]
              · rw [up_off (Or.inr e)]
            refine ih (k + 1) (by omega) μ9 ?_ (fun j j0 j1 => ?_) ?_ ?_ cf' ?_ ⟨fun i hi => ?_, fun i hi => ?_⟩
            · rw [e9, up_off (Or.inr (by decide)), s8, c1]
            · rw [e9, up_ne (by decide), e8, up_ne (by decide)]; exact c3 j j0 j1
            · rw [e9, up_off (Or.inr (by decide)), s8, c5]
            · rw [e9, up_self, s8, c4]; omega
            · rw [e9, up_off (Or.inr (by decide)), s8, c7, if_neg (by omega), if_neg (by omega), if_neg (by omega), if_neg (by omega)]
            · rw [e9, up_ne hi, e8, up_ne hi]; exact co.1 i hi
            · rw [e9, up_off (Or.inr (by omega)), s8]; exact co.2 i hi
          · rw [if_neg (show ¬ n ≤ a + (k : Int) by omega)] at e12
            refine ih (k + 1) (by omega) μ13 ?_ (fun j j0 j1 => ?_) ?_ ?_ cf' ?_ ⟨fun i hi => ?_, fun i hi => ?_⟩
            · rw [e13, up_off (Or.inr (by decide)), e12, up_off (Or.inr (by decide)), c1]
            · rw [e13, up_ne (by decide), e12, up_ne (by decide)]; exact c3 j j0 j1
            · rw [e13, up_off (Or.inr (by decide)), e12, up_off (Or.inr (by decide)), c5]
            · rw [e13, up_self, e12, up_off (Or.inr (by decide)), c4]; omega
            · rw [e13, up_off (Or.inr (by decide)), e12, up_self, c7]
              rcases (show k = 0 ∨ k = 1 by omega) with e | e <;> subst e
              · rw [if_pos rfl, if_neg (by decide), if_pos rfl, show a + ((0 : Nat) : Int) = a by omega]; omega
              · rw [if_neg (by decide), if_pos rfl, if_neg (by decide), if_neg (by decide)]
                show 10 * (T a - 48) + T (a + 1) - 48 = _
                omega
            · rw [e13, up_ne hi, e12, up_ne hi]; exact co.1 i hi
            · rw [e13, up_off (Or.inr (by omega)), e12, up_off (Or.inr (by omega))]; exact co.2 i hi
    refine loop (n - a).toNat 0 (by omega) μ26 ?_ (fun j j0 j1 => ?_) ?_ ?_ (fun j hj => absurd hj (Nat.not_lt_zero j)) ?_ ⟨fun i hi => ?_, fun i hi => ?_⟩
    · rw [e26, up_off (Or.inr (by decide)), e4, up_off (Or.inr (by decide)), f6]
    · rw [e26, up_ne (by decide), e4, up_ne (by decide)]; exact f3 j j0 j1
    · rw [e26, up_off (Or.inr (by decide)), e4, up_off (Or.inr (by decide)), f10]
    · rw [e26, up_off (Or.inr (by decide)), e4, up_off (Or.inr (by decide)), f9]; simp
    · rw [e26, up_self]; rfl
    · rw [e26, up_ne hi, e4, up_ne hi]; exact fr.1 i hi
    · rw [e26, up_off (Or.inr (by omega)), e4, up_off (Or.inr (by omega))]; exact fr.2 i hi
end P62

/-! Pairs: copies, counts, people. -/
set_option maxRecDepth 20000 in
theorem s_X8_count {E : Ex} {μ : Mem} {Q : Option Vl → Mem → Prop} {x1 : Int} {v : CV}  (ix1 : inR x1) (h : (x1 ≠ 0 → ((1 ≤ x1 ∧ x1 ≤ 9) → (x1 ≠ 1 → (x1 ≠ 2 → (x1 ≠ 3 → (x1 ≠ 4 → (x1 ≠ 5 → (x1 ≠ 6 → (x1 ≠ 7 → (x1 ≠ 8 → Q (some (.inl (μ 83 6))) μ) ∧ (x1 = 8 → Q (some (.inl (μ 83 17))) μ)) ∧ (x1 = 7 → Q (some (.inl (μ 89 4))) μ)) ∧ (x1 = 6 → (Rel v (μ 89)) ∧ Q (some (.inl (cntI (fun p => decide (cState v p (v 0 4) = 1)) (v 0 1)))) μ)) ∧ (x1 = 5 → (Rel v (μ 89)) ∧ Q (some (.inl (cntI (fun p => decide (cState v p (v 0 4) = 0)) (v 0 1)))) μ)) ∧ (x1 = 4 → Q (some (.inl (μ 89 3))) μ)) ∧ (x1 = 3 → Q (some (.inl (μ 89 1))) μ)) ∧ (x1 = 2 → Q (some (.inl (μ 89 0))) μ)) ∧ (x1 = 1 → Q (some (.inl (μ 89 2))) μ)) ∧ (¬ (1 ≤ x1 ∧ x1 ≤ 9) → Q (some (.inl (-1000001))) μ)) ∧ (x1 = 0 → Gg E 2 M_X8_count 8 [some (.inr 83), some (.inl x1), some (.inl 0), some (.inl 0)] [] μ Q)) : Cl E 2 M_X8_count [.inr 83, .inl x1] μ Q := by
  show Gg E 2 M_X8_count 0 [some (.inr 83), some (.inl x1), none, none] [] μ Q
  refine r_iloadn (q := 1) DM_X8_count_0 rfl rfl ?_
  refine r_ifne (q := 4) (t := 38) DM_X8_count_1 rfl (by decide) ⟨ix1, fun cc => ?_, fun cc => ?_⟩
  · replace h := h.1 cc
    refine r_iloadn (q := 39) DM_X8_count_38 rfl rfl ?_
    refine r_iconst (q := 40) (n := 1) DM_X8_count_39 rfl ?_
    refine r_bipush (q := 42) (n := 9) DM_X8_count_40 rfl (by decide) ?_
    refine r_callSi [.inl x1, .inl 1, .inl 9] (q := 45) DM_X8_count_42 rfl kM_X8_in lRX8_65 rfl (by decide) (Nat.le_of_ble_eq_true rfl) rfl (k_X8_in ix1 (by decide) (by decide) ⟨_, rfl, ?_⟩)
    refine r_bine (q := 48) (t := 51) DM_X8_count_45 rfl (by decide) ⟨fun cc => ?_, fun cc => ?_⟩
    · replace h := h.1 cc
      refine r_iloadn (q := 52) DM_X8_count_51 rfl rfl ?_
      refine r_iconst (q := 53) (n := 1) DM_X8_count_52 rfl ?_
      refine r_icne (q := 56) (t := 65) DM_X8_count_53 rfl (by decide) ⟨⟨ix1, (by decide)⟩, fun cc => ?_, fun cc => ?_⟩
      · replace h := h.1 cc
        refine r_iloadn (q := 66) DM_X8_count_65 rfl rfl ?_
        refine r_iconst (q := 67) (n := 2) DM_X8_count_66 rfl ?_
        refine r_icne (q := 70) (t := 79) DM_X8_count_67 rfl (by decide) ⟨⟨ix1, (by decide)⟩, fun cc => ?_, fun cc => ?_⟩
        · replace h := h.1 cc
          refine r_iloadn (q := 80) DM_X8_count_79 rfl rfl ?_
          refine r_iconst (q := 81) (n := 3) DM_X8_count_80 rfl ?_
          refine r_icne (q := 84) (t := 93) DM_X8_count_81 rfl (by decide) ⟨⟨ix1, (by decide)⟩, fun cc => ?_, fun cc => ?_⟩
          · replace h := h.1 cc
            refine r_iloadn (q := 94) DM_X8_count_93 rfl rfl ?_
            refine r_iconst (q := 95) (n := 4) DM_X8_count_94 rfl ?_
            refine r_icne (q := 98) (t := 107) DM_X8_count_95 rfl (by decide) ⟨⟨ix1, (by decide)⟩, fun cc => ?_, fun cc => ?_⟩
            · replace h := h.1 cc
              refine r_iloadn (q := 108) DM_X8_count_107 rfl rfl ?_
              refine r_iconst (q := 109) (n := 5) DM_X8_count_108 rfl ?_
              refine r_icne (q := 112) (t := 123) DM_X8_count_109 rfl (by decide) ⟨⟨ix1, (by decide)⟩, fun cc => ?_, fun cc => ?_⟩
              · replace h := h.1 cc
                refine r_iloadn (q := 124) DM_X8_count_123 rfl rfl ?_
                refine r_bipush (q := 126) (n := 6) DM_X8_count_124 rfl (by decide) ?_
                refine r_icne (q := 129) (t := 140) DM_X8_count_126 rfl (by decide) ⟨⟨ix1, (by decide)⟩, fun cc => ?_, fun cc => ?_⟩
                · replace h := h.1 cc
                  refine r_iloadn (q := 141) DM_X8_count_140 rfl rfl ?_
                  refine r_bipush (q := 143) (n := 7) DM_X8_count_141 rfl (by decide) ?_
                  refine r_icne (q := 146) (t := 155) DM_X8_count_143 rfl (by decide) ⟨⟨ix1, (by decide)⟩, fun cc => ?_, fun cc => ?_⟩
                  · replace h := h.1 cc
                    refine r_iloadn (q := 156) DM_X8_count_155 rfl rfl ?_
                    refine r_bipush (q := 158) (n := 8) DM_X8_count_156 rfl (by decide) ?_
                    refine r_icne (q := 161) (t := 168) DM_X8_count_158 rfl (by decide) ⟨⟨ix1, (by decide)⟩, fun cc => ?_, fun cc => ?_⟩
                    · replace h := h.1 cc
                      refine r_aloadn (q := 169) DM_X8_count_168 rfl rfl ?_
                      refine v_getI (q := 172) (ji := 6) DM_X8_count_169 rfl fRX8_91 sh_83 rfl rfl ?_
                      exact r_ret (v := some (.inl (μ 83 6))) ⟨DM_X8_count_172, Or.inl rfl⟩ h
                    · replace h := h.2 cc
                      refine r_aloadn (q := 162) DM_X8_count_161 rfl rfl ?_
                      refine v_getI (q := 165) (ji := 17) DM_X8_count_162 rfl fRX8_155 sh_83 rfl rfl ?_
                      refine r_goto (q := 172) DM_X8_count_165 (by decide) ?_
                      exact r_ret (v := some (.inl (μ 83 17))) ⟨DM_X8_count_172, Or.inl rfl⟩ h
                  · replace h := h.2 cc
                    refine r_aloadn (q := 147) DM_X8_count_146 rfl rfl ?_
                    refine r_getR (q := 150) (r := 89) DM_X8_count_147 rfl fRX8_25 sh_83 rfl ?_
                    refine r_iconst (q := 151) (n := 4) DM_X8_count_150 rfl ?_
                    refine r_iald (q := 152) DM_X8_count_151 rfl sh_89 (by decide) ⟨by decide, ?_⟩
                    refine r_goto (q := 172) DM_X8_count_152 (by decide) ?_
                    exact r_ret (v := some (.inl (μ 89 4))) ⟨DM_X8_count_172, Or.inl rfl⟩ h
                · replace h := h.2 cc
                  refine r_aloadn (q := 130) DM_X8_count_129 rfl rfl ?_
                  refine r_getR (q := 133) (r := 89) DM_X8_count_130 rfl fRX8_25 sh_83 rfl ?_
                  refine r_iconst (q := 134) (n := 1) DM_X8_count_133 rfl ?_
                  have i1 := h.1
                  replace h := h.2
                  refine r_callSi [.inr 89, .inl 1] (q := 137) DM_X8_count_134 rfl kM_X8_manySo lRX8_193 rfl (by decide) (Nat.le_of_ble_eq_true rfl) rfl (k_X8_manySo sh_89 i1 (by decide) ⟨_, rfl, ?_⟩)
                  refine r_goto (q := 172) DM_X8_count_137 (by decide) ?_
                  exact r_ret (v := some (.inl (cntI (fun p => decide (cState v p (v 0 4) = 1)) (v 0 1)))) ⟨DM_X8_count_172, Or.inl rfl⟩ h
              · replace h := h.2 cc
                refine r_aloadn (q := 113) DM_X8_count_112 rfl rfl ?_
                refine r_getR (q := 116) (r := 89) DM_X8_count_113 rfl fRX8_25 sh_83 rfl ?_
                refine r_iconst (q := 117) (n := 0) DM_X8_count_116 rfl ?_
                have i2 := h.1
                replace h := h.2
                refine r_callSi [.inr 89, .inl 0] (q := 120) DM_X8_count_117 rfl kM_X8_manySo lRX8_193 rfl (by decide) (Nat.le_of_ble_eq_true rfl) rfl (k_X8_manySo sh_89 i2 (by decide) ⟨_, rfl, ?_⟩)
                refine r_goto (q := 172) DM_X8_count_120 (by decide) ?_
                exact r_ret (v := some (.inl (cntI (fun p => decide (cState v p (v 0 4) = 0)) (v 0 1)))) ⟨DM_X8_count_172, Or.inl rfl⟩ h
            · replace h := h.2 cc
              refine r_aloadn (q := 99) DM_X8_count_98 rfl rfl ?_
              refine r_getR (q := 102) (r := 89) DM_X8_count_99 rfl fRX8_25 sh_83 rfl ?_
              refine r_iconst (q := 103) (n := 3) DM_X8_count_102 rfl ?_
              refine r_iald (q := 104) DM_X8_count_103 rfl sh_89 (by decide) ⟨by decide, ?_⟩
              refine r_goto (q := 172) DM_X8_count_104 (by decide) ?_
              exact r_ret (v := some (.inl (μ 89 3))) ⟨DM_X8_count_172, Or.inl rfl⟩ h
          · replace h := h.2 cc
            refine r_aloadn (q := 85) DM_X8_count_84 rfl rfl ?_
            refine r_getR (q := 88) (r := 89) DM_X8_count_85 rfl fRX8_25 sh_83 rfl ?_
            refine r_iconst (q := 89) (n := 1) DM_X8_count_88 rfl ?_
            refine r_iald (q := 90) DM_X8_count_89 rfl sh_89 (by decide) ⟨by decide, ?_⟩
            refine r_goto (q := 172) DM_X8_count_90 (by decide) ?_
            exact r_ret (v := some (.inl (μ 89 1))) ⟨DM_X8_count_172, Or.inl rfl⟩ h
        · replace h := h.2 cc
          refine r_aloadn (q := 71) DM_X8_count_70 rfl rfl ?_
          refine r_getR (q := 74) (r := 89) DM_X8_count_71 rfl fRX8_25 sh_83 rfl ?_
          refine r_iconst (q := 75) (n := 0) DM_X8_count_74 rfl ?_
          refine r_iald (q := 76) DM_X8_count_75 rfl sh_89 (by decide) ⟨by decide, ?_⟩
          refine r_goto (q := 172) DM_X8_count_76 (by decide) ?_
          exact r_ret (v := some (.inl (μ 89 0))) ⟨DM_X8_count_172, Or.inl rfl⟩ h
      · replace h := h.2 cc
        refine r_aloadn (q := 57) DM_X8_count_56 rfl rfl ?_
        refine r_getR (q := 60) (r := 89) DM_X8_count_57 rfl fRX8_25 sh_83 rfl ?_
        refine r_iconst (q := 61) (n := 2) DM_X8_count_60 rfl ?_
        refine r_iald (q := 62) DM_X8_count_61 rfl sh_89 (by decide) ⟨by decide, ?_⟩
        refine r_goto (q := 172) DM_X8_count_62 (by decide) ?_
        exact r_ret (v := some (.inl (μ 89 2))) ⟨DM_X8_count_172, Or.inl rfl⟩ h
    · replace h := h.2 cc
      refine r_ldc (q := 50) (n := (-1000001)) DM_X8_count_48 rfl nRX8_73 ?_
      exact r_ret (v := some (.inl (-1000001))) ⟨DM_X8_count_50, Or.inl rfl⟩ h
  · replace h := h.2 cc
    refine r_iconst (q := 5) (n := 0) DM_X8_count_4 rfl ?_
    refine v_istoren (q := 6) (ls' := [some (.inr 83), some (.inl x1), some (.inl 0), none]) DM_X8_count_5 rfl (by decide) rfl ?_
    refine r_iconst (q := 7) (n := 0) DM_X8_count_6 rfl ?_
    refine v_istoren (q := 8) (ls' := [some (.inr 83), some (.inl x1), some (.inl 0), some (.inl 0)]) DM_X8_count_7 rfl (by decide) rfl ?_
    exact h
set_option maxRecDepth 20000 in
theorem s_X8_count_8 {E : Ex} {μ : Mem} {Q : Option Vl → Mem → Prop} {x1 x2 x3 : Int} {v : CV}  (h : inR x3 ∧ (x3 ≥ 8 → Q (some (.inl x2)) μ) ∧ (¬ x3 ≥ 8 → (0 ≤ x3 ∧ x3 < 8) ∧ inR (μ 84 x3) ∧ (¬ (μ 84 x3 = -1000000) → Gg E 2 M_X8_count 8 [some (.inr 83), some (.inl x1), some (.inl (x2 + 1)), some (.inl (x3 + 1))] [] μ Q) ∧ ((μ 84 x3 = -1000000) → Gg E 2 M_X8_count 8 [some (.inr 83), some (.inl x1), some (.inl (x2 + 0)), some (.inl (x3 + 1))] [] μ Q))) : Gg E 2 M_X8_count 8 [some (.inr 83), some (.inl x1), some (.inl x2), some (.inl x3)] [] μ Q := by
  refine r_iloadn (q := 9) DM_X8_count_8 rfl rfl ?_
  refine r_bipush (q := 11) (n := 8) DM_X8_count_9 rfl (by decide) ?_
  have i1 := h.1
  replace h := h.2
  refine r_icge (q := 14) (t := 36) DM_X8_count_11 rfl (by decide) ⟨⟨i1, (by decide)⟩, fun cc => ?_, fun cc => ?_⟩
  · replace h := h.1 cc
    refine r_iloadn (q := 37) DM_X8_count_36 rfl rfl ?_
    exact r_ret (v := some (.inl x2)) ⟨DM_X8_count_37, Or.inl rfl⟩ h
  · replace h := h.2 cc
    refine r_iloadn (q := 15) DM_X8_count_14 rfl rfl ?_
    refine r_aloadn (q := 16) DM_X8_count_15 rfl rfl ?_
    refine r_iloadn (q := 17) DM_X8_count_16 rfl rfl ?_
    have i2 := h.1
    replace h := h.2
    have i3 := h.1
    replace h := h.2
    refine r_callVi [.inl x3] (q := 20) DM_X8_count_17 rfl kM_X8_isMissing lRX8_81 sh_83 rfl rfl (by decide) (Nat.le_of_ble_eq_true rfl) rfl (k_X8_isMissing i2 i3 ⟨_, rfl, ?_⟩)
    refine r_bieq (q := 23) (t := 27) DM_X8_count_20 rfl (by decide) ⟨fun cc => ?_, fun cc => ?_⟩
    · replace h := h.1 cc
      refine r_iconst (q := 28) (n := 1) DM_X8_count_27 rfl ?_
      refine r_iadd (q := 29) DM_X8_count_28 rfl ?_
      refine v_istoren (q := 30) (ls' := [some (.inr 83), some (.inl x1), some (.inl (x2 + 1)), some (.inl x3)]) DM_X8_count_29 rfl (by decide) rfl ?_
      refine v_iinc (q := 33) (ls' := [some (.inr 83), some (.inl x1), some (.inl (x2 + 1)), some (.inl (x3 + 1))]) DM_X8_count_30 rfl rfl (by decide) rfl ?_
      refine r_goto (q := 8) DM_X8_count_33 (by decide) ?_
      exact h
    · replace h := h.2 cc
      refine r_iconst (q := 24) (n := 0) DM_X8_count_23 rfl ?_
      refine r_goto (q := 28) DM_X8_count_24 (by decide) ?_
      refine r_iadd (q := 29) DM_X8_count_28 rfl ?_
      refine v_istoren (q := 30) (ls' := [some (.inr 83), some (.inl x1), some (.inl (x2 + 0)), some (.inl x3)]) DM_X8_count_29 rfl (by decide) rfl ?_
      refine v_iinc (q := 33) (ls' := [some (.inr 83), some (.inl x1), some (.inl (x2 + 0)), some (.inl (x3 + 1))]) DM_X8_count_30 rfl rfl (by decide) rfl ?_
      refine r_goto (q := 8) DM_X8_count_33 (by decide) ?_
      exact h
set_option maxRecDepth 20000 in
theorem s_X7_count {E : Ex} {μ : Mem} {Q : Option Vl → Mem → Prop} {x1 : Int}  (ix1 : inR x1) (h : inR x1 ∧ ((x1 < 0 ∨ 9 < x1) → Q (some (.inl (-1000001))) μ) ∧ (x1 = 0 → (∀ i, 0 ≤ i → i < 8 → inR (μ (rw i) 2)) ∧ Q (some (.inl (cntI (fun i => decide (¬ μ (rw i) 2 = -1)) 8))) μ) ∧ (x1 = 1 → Q (some (.inl (μ 4 1))) μ) ∧ (x1 = 2 → Q (some (.inl (μ 4 2))) μ) ∧ (x1 = 3 → Q (some (.inl (μ 4 3))) μ) ∧ (x1 = 4 → Q (some (.inl (μ 4 4))) μ) ∧ (x1 = 5 → (RgC μ 4) ∧ (0 ≤ μ 4 1 ∧ μ 4 1 ≤ 6) ∧ Q (some (.inl (cntI (fun p => decide (cState (cv μ 4) p (μ 4 4) = 0)) (μ 4 1)))) μ) ∧ (x1 = 6 → (RgC μ 4) ∧ (0 ≤ μ 4 1 ∧ μ 4 1 ≤ 6) ∧ Q (some (.inl (cntI (fun p => decide (cState (cv μ 4) p (μ 4 4) = 1)) (μ 4 1)))) μ) ∧ (x1 = 7 → Q (some (.inl (μ 4 5))) μ) ∧ (x1 = 8 → Q (some (.inl (μ 25 5))) μ) ∧ (x1 = 9 → Q (some (.inl (μ 2 1))) μ) ∧ True) : Cl E 4 M_X7_count [.inr 0, .inl x1] μ Q := by
  show Gg E 4 M_X7_count 0 [some (.inr 0), some (.inl x1)] [] μ Q
  refine r_iloadn (q := 1) DM_X7_count_0 rfl rfl ?_
  have i1 := h.1
  replace h := h.2
  refine r_tab DM_X7_count_1 i1 (fun c1 c2 => ?_) (fun cc => ⟨135, by decide, ?_⟩)
  · rcases (show x1 = 0 ∨ x1 = 1 ∨ x1 = 2 ∨ x1 = 3 ∨ x1 = 4 ∨ x1 = 5 ∨ x1 = 6 ∨ x1 = 7 ∨ x1 = 8 ∨ x1 = 9 from by omega) with cc | cc | cc | cc | cc | cc | cc | cc | cc | cc
    · replace h := h.2.1 cc
      refine ⟨55, 56, by rw [cc]; rfl, by decide, ?_⟩
      refine r_aloadn (q := 57) DM_X7_count_56 rfl rfl ?_
      have i2 := h.1
      replace h := h.2
      refine r_callVi [] (q := 60) DM_X7_count_57 rfl kM_X7_howManyRows lRX7_271 sh_0 rfl rfl (by decide) (Nat.le_of_ble_eq_true rfl) rfl (k_X7_howManyRows i2 ⟨_, rfl, ?_⟩)
      exact r_ret (v := some (.inl (cntI (fun i => decide (¬ μ (rw i) 2 = -1)) 8))) ⟨DM_X7_count_60, Or.inl rfl⟩ h
    · replace h := h.2.2.1 cc
      refine ⟨60, 61, by rw [cc]; rfl, by decide, ?_⟩
      refine r_aloadn (q := 62) DM_X7_count_61 rfl rfl ?_
      refine r_getR (q := 65) (r := 4) DM_X7_count_62 rfl fRX7_25 sh_0 rfl ?_
      refine v_getI (q := 68) (ji := 1) DM_X7_count_65 rfl fRX7_137 (co0 cK_4) rfl rfl ?_
      exact r_ret (v := some (.inl (μ 4 1))) ⟨DM_X7_count_68, Or.inl rfl⟩ h
    · replace h := h.2.2.2.1 cc
      refine ⟨68, 69, by rw [cc]; rfl, by decide, ?_⟩
      refine r_aloadn (q := 70) DM_X7_count_69 rfl rfl ?_
      refine r_getR (q := 73) (r := 4) DM_X7_count_70 rfl fRX7_25 sh_0 rfl ?_
      refine v_getI (q := 76) (ji := 2) DM_X7_count_73 rfl fRX7_274 (co0 cK_4) rfl rfl ?_
      exact r_ret (v := some (.inl (μ 4 2))) ⟨DM_X7_count_76, Or.inl rfl⟩ h
    · replace h := h.2.2.2.2.1 cc
      refine ⟨76, 77, by rw [cc]; rfl, by decide, ?_⟩
      refine r_aloadn (q := 78) DM_X7_count_77 rfl rfl ?_
      refine r_getR (q := 81) (r := 4) DM_X7_count_78 rfl fRX7_25 sh_0 rfl ?_
      refine v_getI (q := 84) (ji := 3) DM_X7_count_81 rfl fRX7_277 (co0 cK_4) rfl rfl ?_
      exact r_ret (v := some (.inl (μ 4 3))) ⟨DM_X7_count_84, Or.inl rfl⟩ h
    · replace h := h.2.2.2.2.2.1 cc
      refine ⟨84, 85, by rw [cc]; rfl, by decide, ?_⟩
      refine r_aloadn (q := 86) DM_X7_count_85 rfl rfl ?_
      refine r_getR (q := 89) (r := 4) DM_X7_count_86 rfl fRX7_25 sh_0 rfl ?_
      refine v_getI (q := 92) (ji := 4) DM_X7_count_89 rfl fRX7_145 (co0 cK_4) rfl rfl ?_
      exact r_ret (v := some (.inl (μ 4 4))) ⟨DM_X7_count_92, Or.inl rfl⟩ h
    · replace h := h.2.2.2.2.2.2.1 cc
      refine ⟨92, 93, by rw [cc]; rfl, by decide, ?_⟩
      refine r_aloadn (q := 94) DM_X7_count_93 rfl rfl ?_
      refine r_getR (q := 97) (r := 4) DM_X7_count_94 rfl fRX7_25 sh_0 rfl ?_
      refine r_iconst (q := 98) (n := 0) DM_X7_count_97 rfl ?_
      have i3 := h.1
      replace h := h.2
      have i4 := h.1
      replace h := h.2
      refine r_callVi [.inl 0] (q := 101) DM_X7_count_98 rfl kM_X2_howMany lRX7_154 (co0 cK_4) rfl rfl (by decide) (Nat.le_of_ble_eq_true rfl) rfl (k_X2_howMany cK_4 i3 i4 (by decide) ⟨_, rfl, ?_⟩)
      exact r_ret (v := some (.inl (cntI (fun p => decide (cState (cv μ 4) p (μ 4 4) = 0)) (μ 4 1)))) ⟨DM_X7_count_101, Or.inl rfl⟩ h
    · replace h := h.2.2.2.2.2.2.2.1 cc
      refine ⟨101, 102, by rw [cc]; rfl, by decide, ?_⟩
      refine r_aloadn (q := 103) DM_X7_count_102 rfl rfl ?_
      refine r_getR (q := 106) (r := 4) DM_X7_count_103 rfl fRX7_25 sh_0 rfl ?_
      refine r_iconst (q := 107) (n := 1) DM_X7_count_106 rfl ?_
      have i5 := h.1
      replace h := h.2
      have i6 := h.1
      replace h := h.2
      refine r_callVi [.inl 1] (q := 110) DM_X7_count_107 rfl kM_X2_howMany lRX7_154 (co0 cK_4) rfl rfl (by decide) (Nat.le_of_ble_eq_true rfl) rfl (k_X2_howMany cK_4 i5 i6 (by decide) ⟨_, rfl, ?_⟩)
      exact r_ret (v := some (.inl (cntI (fun p => decide (cState (cv μ 4) p (μ 4 4) = 1)) (μ 4 1)))) ⟨DM_X7_count_110, Or.inl rfl⟩ h
    · replace h := h.2.2.2.2.2.2.2.2.1 cc
      refine ⟨110, 111, by rw [cc]; rfl, by decide, ?_⟩
      refine r_aloadn (q := 112) DM_X7_count_111 rfl rfl ?_
      refine r_getR (q := 115) (r := 4) DM_X7_count_112 rfl fRX7_25 sh_0 rfl ?_
      refine v_getI (q := 118) (ji := 5) DM_X7_count_115 rfl fRX7_177 (co0 cK_4) rfl rfl ?_
      exact r_ret (v := some (.inl (μ 4 5))) ⟨DM_X7_count_118, Or.inl rfl⟩ h
    · replace h := h.2.2.2.2.2.2.2.2.2.1 cc
      refine ⟨118, 119, by rw [cc]; rfl, by decide, ?_⟩
      refine r_aloadn (q := 120) DM_X7_count_119 rfl rfl ?_
      refine r_getR (q := 123) (r := 25) DM_X7_count_120 rfl fRX7_39 sh_0 rfl ?_
      refine v_getI (q := 126) (ji := 5) DM_X7_count_123 rfl fRX7_183 sh_25 rfl rfl ?_
      exact r_ret (v := some (.inl (μ 25 5))) ⟨DM_X7_count_126, Or.inl rfl⟩ h
    · replace h := h.2.2.2.2.2.2.2.2.2.2.1 cc
      refine ⟨126, 127, by rw [cc]; rfl, by decide, ?_⟩
      refine r_aloadn (q := 128) DM_X7_count_127 rfl rfl ?_
      refine r_getR (q := 131) (r := 2) DM_X7_count_128 rfl fRX7_18 sh_0 rfl ?_
      refine v_getI (q := 134) (ji := 1) DM_X7_count_131 rfl fRX7_108 sh_2 rfl rfl ?_
      exact r_ret (v := some (.inl (μ 2 1))) ⟨DM_X7_count_134, Or.inl rfl⟩ h
  · replace h := h.1 cc
    refine r_ldc (q := 137) (n := (-1000001)) DM_X7_count_135 rfl nRX7_69 ?_
    exact r_ret (v := some (.inl (-1000001))) ⟨DM_X7_count_137, Or.inl rfl⟩ h
set_option maxRecDepth 20000 in
theorem s_X8_beforeIt {E : Ex} {μ : Mem} {Q : Option Vl → Mem → Prop} {x1 : Int} {v : CV}  (h : Gg E 3 M_X8_beforeIt 4 [some (.inr 83), some (.inl x1), some (.inl 0), some (.inl 0)] [] μ Q) : Cl E 3 M_X8_beforeIt [.inr 83, .inl x1] μ Q := by
  show Gg E 3 M_X8_beforeIt 0 [some (.inr 83), some (.inl x1), none, none] [] μ Q
  refine r_iconst (q := 1) (n := 0) DM_X8_beforeIt_0 rfl ?_
  refine v_istoren (q := 2) (ls' := [some (.inr 83), some (.inl x1), some (.inl 0), none]) DM_X8_beforeIt_1 rfl (by decide) rfl ?_
  refine r_iconst (q := 3) (n := 0) DM_X8_beforeIt_2 rfl ?_
  refine v_istoren (q := 4) (ls' := [some (.inr 83), some (.inl x1), some (.inl 0), some (.inl 0)]) DM_X8_beforeIt_3 rfl (by decide) rfl ?_
  exact h
set_option maxRecDepth 20000 in
theorem s_X8_beforeIt_4 {E : Ex} {μ : Mem} {Q : Option Vl → Mem → Prop} {x1 x2 x3 : Int} {v : CV}  (h : inR x3 ∧ inR (μ 89 2) ∧ (x3 ≥ (μ 89 2) → Q (some (.inl x2)) μ) ∧ (¬ x3 ≥ (μ 89 2) → inR x1 ∧ (x3 = x1 → Gg E 3 M_X8_beforeIt 4 [some (.inr 83), some (.inl x1), some (.inl (x2 + 0)), some (.inl (x3 + 1))] [] μ Q) ∧ (¬ x3 = x1 → (Rel v (μ 89)) ∧ (0 ≤ x3 ∧ x3 < v 0 1) ∧ ((cWait v x3 (v 0 4)) = false → Gg E 3 M_X8_beforeIt 4 [some (.inr 83), some (.inl x1), some (.inl (x2 + 0)), some (.inl (x3 + 1))] [] μ Q) ∧ ((cWait v x3 (v 0 4)) = true → (0 ≤ x1 ∧ x1 < v 0 1) ∧ ((0 : Int) ≤ 0 ∧ (0 : Int) < 1000) ∧ ((cBef v x3 x1 (cTurn v (v 0 4) 0)) = false → Gg E 3 M_X8_beforeIt 4 [some (.inr 83), some (.inl x1), some (.inl (x2 + 0)), some (.inl (x3 + 1))] [] μ Q) ∧ ((cBef v x3 x1 (cTurn v (v 0 4) 0)) = true → Gg E 3 M_X8_beforeIt 4 [some (.inr 83), some (.inl x1), some (.inl (x2 + 1)), some (.inl (x3 + 1))] [] μ Q))))) : Gg E 3 M_X8_beforeIt 4 [some (.inr 83), some (.inl x1), some (.inl x2), some (.inl x3)] [] μ Q := by
  refine r_iloadn (q := 5) DM_X8_beforeIt_4 rfl rfl ?_
  refine r_aloadn (q := 6) DM_X8_beforeIt_5 rfl rfl ?_
  refine r_getR (q := 9) (r := 89) DM_X8_beforeIt_6 rfl fRX8_25 sh_83 rfl ?_
  refine r_iconst (q := 10) (n := 2) DM_X8_beforeIt_9 rfl ?_
  refine r_iald (q := 11) DM_X8_beforeIt_10 rfl sh_89 (by decide) ⟨by decide, ?_⟩
  have i1 := h.1
  replace h := h.2
  have i2 := h.1
  replace h := h.2
  refine r_icge (q := 14) (t := 57) DM_X8_beforeIt_11 rfl (by decide) ⟨⟨i1, i2⟩, fun cc => ?_, fun cc => ?_⟩
  · replace h := h.1 cc
    refine r_iloadn (q := 58) DM_X8_beforeIt_57 rfl rfl ?_
    exact r_ret (v := some (.inl x2)) ⟨DM_X8_beforeIt_58, Or.inl rfl⟩ h
  · replace h := h.2 cc
    refine r_iloadn (q := 15) DM_X8_beforeIt_14 rfl rfl ?_
    refine r_iloadn (q := 16) DM_X8_beforeIt_15 rfl rfl ?_
    refine r_iloadn (q := 17) DM_X8_beforeIt_16 rfl rfl ?_
    have i3 := h.1
    replace h := h.2
    refine r_iceq (q := 20) (t := 48) DM_X8_beforeIt_17 rfl (by decide) ⟨⟨i1, i3⟩, fun cc => ?_, fun cc => ?_⟩
    · replace h := h.1 cc
      refine r_iconst (q := 49) (n := 0) DM_X8_beforeIt_48 rfl ?_
      refine r_iadd (q := 50) DM_X8_beforeIt_49 rfl ?_
      refine v_istoren (q := 51) (ls' := [some (.inr 83), some (.inl x1), some (.inl (x2 + 0)), some (.inl x3)]) DM_X8_beforeIt_50 rfl (by decide) rfl ?_
      refine v_iinc (q := 54) (ls' := [some (.inr 83), some (.inl x1), some (.inl (x2 + 0)), some (.inl (x3 + 1))]) DM_X8_beforeIt_51 rfl rfl (by decide) rfl ?_
      refine r_goto (q := 4) DM_X8_beforeIt_54 (by decide) ?_
      exact h
    · replace h := h.2 cc
      refine r_aloadn (q := 21) DM_X8_beforeIt_20 rfl rfl ?_
      refine r_getR (q := 24) (r := 89) DM_X8_beforeIt_21 rfl fRX8_25 sh_83 rfl ?_
      refine r_iloadn (q := 25) DM_X8_beforeIt_24 rfl rfl ?_
      have i4 := h.1
      replace h := h.2
      have i5 := h.1
      replace h := h.2
      refine r_callSi [.inr 89, .inl x3] (q := 28) DM_X8_beforeIt_25 rfl kM_X8_waits lRX8_172 rfl (by decide) (Nat.le_of_ble_eq_true rfl) rfl (k_X8_waits sh_89 i4 i5 ⟨_, rfl, ?_⟩)
      refine r_bbeq (q := 31) (t := 48) DM_X8_beforeIt_28 rfl (by decide) ⟨fun cc => ?_, fun cc => ?_⟩
      · replace h := h.1 cc
        refine r_iconst (q := 49) (n := 0) DM_X8_beforeIt_48 rfl ?_
        refine r_iadd (q := 50) DM_X8_beforeIt_49 rfl ?_
        refine v_istoren (q := 51) (ls' := [some (.inr 83), some (.inl x1), some (.inl (x2 + 0)), some (.inl x3)]) DM_X8_beforeIt_50 rfl (by decide) rfl ?_
        refine v_iinc (q := 54) (ls' := [some (.inr 83), some (.inl x1), some (.inl (x2 + 0)), some (.inl (x3 + 1))]) DM_X8_beforeIt_51 rfl rfl (by decide) rfl ?_
        refine r_goto (q := 4) DM_X8_beforeIt_54 (by decide) ?_
        exact h
      · replace h := h.2 cc
        refine r_aloadn (q := 32) DM_X8_beforeIt_31 rfl rfl ?_
        refine r_getR (q := 35) (r := 89) DM_X8_beforeIt_32 rfl fRX8_25 sh_83 rfl ?_
        refine r_iloadn (q := 36) DM_X8_beforeIt_35 rfl rfl ?_
        refine r_iloadn (q := 37) DM_X8_beforeIt_36 rfl rfl ?_
        refine r_iconst (q := 38) (n := 0) DM_X8_beforeIt_37 rfl ?_
        have i6 := h.1
        replace h := h.2
        have i7 := h.1
        replace h := h.2
        refine r_callSi [.inr 89, .inl x3, .inl x1, .inl 0] (q := 41) DM_X8_beforeIt_38 rfl kM_X8_isBefore lRX8_179 rfl (by decide) (Nat.le_of_ble_eq_true rfl) rfl (k_X8_isBefore sh_89 i4 i5 i6 i7 ⟨_, rfl, ?_⟩)
        refine r_bbeq (q := 44) (t := 48) DM_X8_beforeIt_41 rfl (by decide) ⟨fun cc => ?_, fun cc => ?_⟩
        · replace h := h.1 cc
          refine r_iconst (q := 49) (n := 0) DM_X8_beforeIt_48 rfl ?_
          refine r_iadd (q := 50) DM_X8_beforeIt_49 rfl ?_
          refine v_istoren (q := 51) (ls' := [some (.inr 83), some (.inl x1), some (.inl (x2 + 0)), some (.inl x3)]) DM_X8_beforeIt_50 rfl (by decide) rfl ?_
          refine v_iinc (q := 54) (ls' := [some (.inr 83), some (.inl x1), some (.inl (x2 + 0)), some (.inl (x3 + 1))]) DM_X8_beforeIt_51 rfl rfl (by decide) rfl ?_
          refine r_goto (q := 4) DM_X8_beforeIt_54 (by decide) ?_
          exact h
        · replace h := h.2 cc
          refine r_iconst (q := 45) (n := 1) DM_X8_beforeIt_44 rfl ?_
          refine r_goto (q := 49) DM_X8_beforeIt_45 (by decide) ?_
          refine r_iadd (q := 50) DM_X8_beforeIt_49 rfl ?_
          refine v_istoren (q := 51) (ls' := [some (.inr 83), some (.inl x1), some (.inl (x2 + 1)), some (.inl x3)]) DM_X8_beforeIt_50 rfl (by decide) rfl ?_
          refine v_iinc (q := 54) (ls' := [some (.inr 83), some (.inl x1), some (.inl (x2 + 1)), some (.inl (x3 + 1))]) DM_X8_beforeIt_51 rfl rfl (by decide) rfl ?_
          refine r_goto (q := 4) DM_X8_beforeIt_54 (by decide) ?_
          exact h
set_option maxRecDepth 20000 in
theorem s_X8_person {E : Ex} {μ : Mem} {Q : Option Vl → Mem → Prop} {x1 x2 : Int} {v : CV}  (ix1 : inR x1) (ix2 : inR x2) (h : inR (μ 89 2 - 1) ∧ ((0 ≤ x1 ∧ x1 ≤ μ 89 2 - 1) → inR x2 ∧ ((x2 < 0 ∨ 5 < x2) → Q (some (.inl (-1000001))) μ) ∧ (x2 = 0 → (0 ≤ 13 + 13 * x1 + 1 ∧ 13 + 13 * x1 + 1 < 91) ∧ Q (some (.inl (μ 89 (13 + 13 * x1 + 1)))) μ) ∧ (x2 = 1 → (0 ≤ 13 + 13 * x1 + 2 ∧ 13 + 13 * x1 + 2 < 91) ∧ Q (some (.inl (μ 89 (13 + 13 * x1 + 2)))) μ) ∧ (x2 = 2 → (0 ≤ 13 + 13 * x1 + 3 ∧ 13 + 13 * x1 + 3 < 91) ∧ Q (some (.inl (μ 89 (13 + 13 * x1 + 3)))) μ) ∧ (x2 = 3 → (0 ≤ 13 + 13 * x1 + 8 ∧ 13 + 13 * x1 + 8 < 91) ∧ Q (some (.inl (μ 89 (13 + 13 * x1 + 8)))) μ) ∧ (x2 = 4 → (0 ≤ 13 + 13 * x1 + 8 ∧ 13 + 13 * x1 + 8 < 91) ∧ inR (μ 89 (13 + 13 * x1 + 8)) ∧ ((μ 89 (13 + 13 * x1 + 8)) ≠ 1 → Q (some (.inl 0)) μ) ∧ ((μ 89 (13 + 13 * x1 + 8)) = 1 → (0 ≤ 13 + 13 * x1 + 9 ∧ 13 + 13 * x1 + 9 < 91) ∧ Q (some (.inl (μ 89 (13 + 13 * x1 + 9)))) μ)) ∧ (x2 = 5 → (Rel v (μ 89)) ∧ (0 ≤ x1 ∧ x1 < v 0 1) ∧ ((cWait v x1 (v 0 4)) = false → Q (some (.inl (-1000000))) μ) ∧ ((cWait v x1 (v 0 4)) = true → Cl E 3 M_X8_beforeIt [.inr 83, .inl x1] μ (fun vv μ12 => ∃ v13, vv = some (.inl v13) ∧ Q (some (.inl v13)) μ12))) ∧ True) ∧ (¬ (0 ≤ x1 ∧ x1 ≤ μ 89 2 - 1) → Q (some (.inl (-1000001))) μ)) : Cl E 4 M_X8_person [.inr 83, .inl x1, .inl x2] μ Q := by
  show Gg E 4 M_X8_person 0 [some (.inr 83), some (.inl x1), some (.inl x2)] [] μ Q
  refine r_aloadn (q := 1) DM_X8_person_0 rfl rfl ?_
  refine r_iloadn (q := 2) DM_X8_person_1 rfl rfl ?_
  have i1 := h.1
  replace h := h.2
  refine r_callVi [.inl x1] (q := 5) DM_X8_person_2 rfl kM_X8_isPerson lRX8_210 sh_83 rfl rfl (by decide) (Nat.le_of_ble_eq_true rfl) rfl (k_X8_isPerson ix1 i1 ⟨_, rfl, ?_⟩)
  refine r_bine (q := 8) (t := 11) DM_X8_person_5 rfl (by decide) ⟨fun cc => ?_, fun cc => ?_⟩
  · replace h := h.1 cc
    refine r_iloadn (q := 12) DM_X8_person_11 rfl rfl ?_
    have i2 := h.1
    replace h := h.2
    refine r_tab DM_X8_person_12 i2 (fun c1 c2 => ?_) (fun cc => ⟨144, by decide, ?_⟩)
    · rcases (show x2 = 0 ∨ x2 = 1 ∨ x2 = 2 ∨ x2 = 3 ∨ x2 = 4 ∨ x2 = 5 from by omega) with cc | cc | cc | cc | cc | cc
      · replace h := h.2.1 cc
        refine ⟨40, 52, by rw [cc]; rfl, by decide, ?_⟩
        refine r_aloadn (q := 53) DM_X8_person_52 rfl rfl ?_
        refine r_getR (q := 56) (r := 89) DM_X8_person_53 rfl fRX8_25 sh_83 rfl ?_
        refine r_iloadn (q := 57) DM_X8_person_56 rfl rfl ?_
        refine r_iconst (q := 58) (n := 1) DM_X8_person_57 rfl ?_
        have i3 := h.1
        replace h := h.2
        refine r_callSi [.inr 89, .inl x1, .inl 1] (q := 61) DM_X8_person_58 rfl kM_X8_of lRX8_158 rfl (by decide) (Nat.le_of_ble_eq_true rfl) rfl (k_X8_of sh_89 i3 ⟨_, rfl, ?_⟩)
        exact r_ret (v := some (.inl (μ 89 (13 + 13 * x1 + 1)))) ⟨DM_X8_person_61, Or.inl rfl⟩ h
      · replace h := h.2.2.1 cc
        refine ⟨50, 62, by rw [cc]; rfl, by decide, ?_⟩
        refine r_aloadn (q := 63) DM_X8_person_62 rfl rfl ?_
        refine r_getR (q := 66) (r := 89) DM_X8_person_63 rfl fRX8_25 sh_83 rfl ?_
        refine r_iloadn (q := 67) DM_X8_person_66 rfl rfl ?_
        refine r_iconst (q := 68) (n := 2) DM_X8_person_67 rfl ?_
        have i4 := h.1
        replace h := h.2
        refine r_callSi [.inr 89, .inl x1, .inl 2] (q := 71) DM_X8_person_68 rfl kM_X8_of lRX8_158 rfl (by decide) (Nat.le_of_ble_eq_true rfl) rfl (k_X8_of sh_89 i4 ⟨_, rfl, ?_⟩)
        exact r_ret (v := some (.inl (μ 89 (13 + 13 * x1 + 2)))) ⟨DM_X8_person_71, Or.inl rfl⟩ h
      · replace h := h.2.2.2.1 cc
        refine ⟨60, 72, by rw [cc]; rfl, by decide, ?_⟩
        refine r_aloadn (q := 73) DM_X8_person_72 rfl rfl ?_
        refine r_getR (q := 76) (r := 89) DM_X8_person_73 rfl fRX8_25 sh_83 rfl ?_
        refine r_iloadn (q := 77) DM_X8_person_76 rfl rfl ?_
        refine r_iconst (q := 78) (n := 3) DM_X8_person_77 rfl ?_
        have i5 := h.1
        replace h := h.2
        refine r_callSi [.inr 89, .inl x1, .inl 3] (q := 81) DM_X8_person_78 rfl kM_X8_of lRX8_158 rfl (by decide) (Nat.le_of_ble_eq_true rfl) rfl (k_X8_of sh_89 i5 ⟨_, rfl, ?_⟩)
        exact r_ret (v := some (.inl (μ 89 (13 + 13 * x1 + 3)))) ⟨DM_X8_person_81, Or.inl rfl⟩ h
      · replace h := h.2.2.2.2.1 cc
        refine ⟨70, 82, by rw [cc]; rfl, by decide, ?_⟩
        refine r_aloadn (q := 83) DM_X8_person_82 rfl rfl ?_
        refine r_getR (q := 86) (r := 89) DM_X8_person_83 rfl fRX8_25 sh_83 rfl ?_
        refine r_iloadn (q := 87) DM_X8_person_86 rfl rfl ?_
        refine r_bipush (q := 89) (n := 8) DM_X8_person_87 rfl (by decide) ?_
        have i6 := h.1
        replace h := h.2
        refine r_callSi [.inr 89, .inl x1, .inl 8] (q := 92) DM_X8_person_89 rfl kM_X8_of lRX8_158 rfl (by decide) (Nat.le_of_ble_eq_true rfl) rfl (k_X8_of sh_89 i6 ⟨_, rfl, ?_⟩)
        exact r_ret (v := some (.inl (μ 89 (13 + 13 * x1 + 8)))) ⟨DM_X8_person_92, Or.inl rfl⟩ h
      · replace h := h.2.2.2.2.2.1 cc
        refine ⟨81, 93, by rw [cc]; rfl, by decide, ?_⟩
        refine r_aloadn (q := 94) DM_X8_person_93 rfl rfl ?_
        refine r_getR (q := 97) (r := 89) DM_X8_person_94 rfl fRX8_25 sh_83 rfl ?_
        refine r_iloadn (q := 98) DM_X8_person_97 rfl rfl ?_
        refine r_bipush (q := 100) (n := 8) DM_X8_person_98 rfl (by decide) ?_
        have i7 := h.1
        replace h := h.2
        refine r_callSi [.inr 89, .inl x1, .inl 8] (q := 103) DM_X8_person_100 rfl kM_X8_of lRX8_158 rfl (by decide) (Nat.le_of_ble_eq_true rfl) rfl (k_X8_of sh_89 i7 ⟨_, rfl, ?_⟩)
        refine r_iconst (q := 104) (n := 1) DM_X8_person_103 rfl ?_
        have i8 := h.1
        replace h := h.2
        refine r_icne (q := 107) (t := 120) DM_X8_person_104 rfl (by decide) ⟨⟨i8, (by decide)⟩, fun cc => ?_, fun cc => ?_⟩
        · replace h := h.1 cc
          refine r_iconst (q := 121) (n := 0) DM_X8_person_120 rfl ?_
          exact r_ret (v := some (.inl 0)) ⟨DM_X8_person_121, Or.inl rfl⟩ h
        · replace h := h.2 cc
          refine r_aloadn (q := 108) DM_X8_person_107 rfl rfl ?_
          refine r_getR (q := 111) (r := 89) DM_X8_person_108 rfl fRX8_25 sh_83 rfl ?_
          refine r_iloadn (q := 112) DM_X8_person_111 rfl rfl ?_
          refine r_bipush (q := 114) (n := 9) DM_X8_person_112 rfl (by decide) ?_
          have i9 := h.1
          replace h := h.2
          refine r_callSi [.inr 89, .inl x1, .inl 9] (q := 117) DM_X8_person_114 rfl kM_X8_of lRX8_158 rfl (by decide) (Nat.le_of_ble_eq_true rfl) rfl (k_X8_of sh_89 i9 ⟨_, rfl, ?_⟩)
          refine r_goto (q := 121) DM_X8_person_117 (by decide) ?_
          exact r_ret (v := some (.inl (μ 89 (13 + 13 * x1 + 9)))) ⟨DM_X8_person_121, Or.inl rfl⟩ h
      · replace h := h.2.2.2.2.2.2.1 cc
        refine ⟨110, 122, by rw [cc]; rfl, by decide, ?_⟩
        refine r_aloadn (q := 123) DM_X8_person_122 rfl rfl ?_
        refine r_getR (q := 126) (r := 89) DM_X8_person_123 rfl fRX8_25 sh_83 rfl ?_
        refine r_iloadn (q := 127) DM_X8_person_126 rfl rfl ?_
        have i10 := h.1
        replace h := h.2
        have i11 := h.1
        replace h := h.2
        refine r_callSi [.inr 89, .inl x1] (q := 130) DM_X8_person_127 rfl kM_X8_waits lRX8_172 rfl (by decide) (Nat.le_of_ble_eq_true rfl) rfl (k_X8_waits sh_89 i10 i11 ⟨_, rfl, ?_⟩)
        refine r_bbeq (q := 133) (t := 141) DM_X8_person_130 rfl (by decide) ⟨fun cc => ?_, fun cc => ?_⟩
        · replace h := h.1 cc
          refine r_ldc (q := 143) (n := (-1000000)) DM_X8_person_141 rfl nRX8_59 ?_
          exact r_ret (v := some (.inl (-1000000))) ⟨DM_X8_person_143, Or.inl rfl⟩ h
        · replace h := h.2 cc
          refine r_aloadn (q := 134) DM_X8_person_133 rfl rfl ?_
          refine r_iloadn (q := 135) DM_X8_person_134 rfl rfl ?_
          refine r_callVi [.inl x1] (q := 138) DM_X8_person_135 rfl kM_X8_beforeIt lRX8_216 sh_83 rfl rfl (by decide) (Nat.le_of_ble_eq_true rfl) rfl (Cl.imp h (fun vv μ12 h => ?_))
          obtain ⟨v13, hv, h⟩ := h
          refine ⟨v13, hv, ?_⟩
          refine r_goto (q := 143) DM_X8_person_138 (by decide) ?_
          exact r_ret (v := some (.inl v13)) ⟨DM_X8_person_143, Or.inl rfl⟩ h
    · replace h := h.1 cc
      refine r_ldc (q := 146) (n := (-1000001)) DM_X8_person_144 rfl nRX8_73 ?_
      exact r_ret (v := some (.inl (-1000001))) ⟨DM_X8_person_146, Or.inl rfl⟩ h
  · replace h := h.2 cc
    refine r_ldc (q := 10) (n := (-1000001)) DM_X8_person_8 rfl nRX8_73 ?_
    exact r_ret (v := some (.inl (-1000001))) ⟨DM_X8_person_10, Or.inl rfl⟩ h
set_option maxRecDepth 20000 in
theorem s_X7_person {E : Ex} {μ : Mem} {Q : Option Vl → Mem → Prop} {x1 x2 : Int}  (ix1 : inR x1) (ix2 : inR x2) (h : inR (μ 4 1) ∧ ((0 ≤ x1 ∧ x1 < μ 4 1) → inR x2 ∧ ((x2 < 0 ∨ 5 < x2) → Q (some (.inl (-1000001))) μ) ∧ (x2 = 0 → (0 ≤ x1 ∧ x1 < 6) ∧ Q (some (.inl (μ (4 + 6) x1))) μ) ∧ (x2 = 1 → (0 ≤ x1 ∧ x1 < 6) ∧ Q (some (.inl (μ (4 + 7) x1))) μ) ∧ (x2 = 2 → (0 ≤ x1 ∧ x1 < 6) ∧ Q (some (.inl (μ (4 + 4) x1))) μ) ∧ (x2 = 3 → (RgC μ 4) ∧ (0 ≤ x1 ∧ x1 < 6) ∧ Q (some (.inl (cState (cv μ 4) x1 (μ 4 4)))) μ) ∧ (x2 = 4 → (RgC μ 4) ∧ (0 ≤ x1 ∧ x1 < 6) ∧ inR (cState (cv μ 4) x1 (μ 4 4)) ∧ ((cState (cv μ 4) x1 (μ 4 4)) ≠ 1 → Q (some (.inl 0)) μ) ∧ ((cState (cv μ 4) x1 (μ 4 4)) = 1 → Q (some (.inl ((μ (4 + 8) x1 + μ (4 + 6) x1) - (μ 4 4)))) μ)) ∧ (x2 = 5 → (RgC μ 4) ∧ (0 ≤ x1 ∧ x1 < 6) ∧ inR (μ 4 4) ∧ ((cWait (cv μ 4) x1 (μ 4 4)) = false → Q (some (.inl (-1000000))) μ) ∧ ((cWait (cv μ 4) x1 (μ 4 4)) = true → (RoOk E) ∧ (VC (cv μ 4)) ∧ (0 ≤ x1 ∧ x1 < μ 4 1) ∧ Q (some (.inl (cntI (fun p => cWait (cv μ 4) p (μ 4 4) && cBef (cv μ 4) p x1 (cTurn (cv μ 4) (μ 4 4) 0)) (μ 4 1)))) μ)) ∧ True) ∧ (¬ (0 ≤ x1 ∧ x1 < μ 4 1) → Q (some (.inl (-1000001))) μ)) : Cl E 4 M_X7_person [.inr 0, .inl x1, .inl x2] μ Q := by
  show Gg E 4 M_X7_person 0 [some (.inr 0), some (.inl x1), some (.inl x2)] [] μ Q
  refine r_aloadn (q := 1) DM_X7_person_0 rfl rfl ?_
  refine r_iloadn (q := 2) DM_X7_person_1 rfl rfl ?_
  have i1 := h.1
  replace h := h.2
  refine r_callVi [.inl x1] (q := 5) DM_X7_person_2 rfl kM_X7_isPerson lRX7_187 sh_0 rfl rfl (by decide) (Nat.le_of_ble_eq_true rfl) rfl (k_X7_isPerson ix1 i1 ⟨_, rfl, ?_⟩)
  refine r_bine (q := 8) (t := 11) DM_X7_person_5 rfl (by decide) ⟨fun cc => ?_, fun cc => ?_⟩
  · replace h := h.1 cc
    refine r_iloadn (q := 12) DM_X7_person_11 rfl rfl ?_
    have i2 := h.1
    replace h := h.2
    refine r_tab DM_X7_person_12 i2 (fun c1 c2 => ?_) (fun cc => ⟨156, by decide, ?_⟩)
    · rcases (show x2 = 0 ∨ x2 = 1 ∨ x2 = 2 ∨ x2 = 3 ∨ x2 = 4 ∨ x2 = 5 from by omega) with cc | cc | cc | cc | cc | cc
      · replace h := h.2.1 cc
        refine ⟨40, 52, by rw [cc]; rfl, by decide, ?_⟩
        refine r_aloadn (q := 53) DM_X7_person_52 rfl rfl ?_
        refine r_getR (q := 56) (r := 4) DM_X7_person_53 rfl fRX7_25 sh_0 rfl ?_
        refine r_getR (q := 59) (r := 4 + 6) DM_X7_person_56 rfl fRX7_191 (co0 cK_4) rfl ?_
        refine r_iloadn (q := 60) DM_X7_person_59 rfl rfl ?_
        refine r_iald (q := 61) DM_X7_person_60 rfl (co6 cK_4) (by decide) ⟨h.1, ?_⟩
        have i3 := h.1
        replace h := h.2
        exact r_ret (v := some (.inl (μ (4 + 6) x1))) ⟨DM_X7_person_61, Or.inl rfl⟩ h
      · replace h := h.2.2.1 cc
        refine ⟨50, 62, by rw [cc]; rfl, by decide, ?_⟩
        refine r_aloadn (q := 63) DM_X7_person_62 rfl rfl ?_
        refine r_getR (q := 66) (r := 4) DM_X7_person_63 rfl fRX7_25 sh_0 rfl ?_
        refine r_getR (q := 69) (r := 4 + 7) DM_X7_person_66 rfl fRX7_194 (co0 cK_4) rfl ?_
        refine r_iloadn (q := 70) DM_X7_person_69 rfl rfl ?_
        refine r_iald (q := 71) DM_X7_person_70 rfl (co7 cK_4) (by decide) ⟨h.1, ?_⟩
        have i4 := h.1
        replace h := h.2
        exact r_ret (v := some (.inl (μ (4 + 7) x1))) ⟨DM_X7_person_71, Or.inl rfl⟩ h
      · replace h := h.2.2.2.1 cc
        refine ⟨60, 72, by rw [cc]; rfl, by decide, ?_⟩
        refine r_aloadn (q := 73) DM_X7_person_72 rfl rfl ?_
        refine r_getR (q := 76) (r := 4) DM_X7_person_73 rfl fRX7_25 sh_0 rfl ?_
        refine r_getR (q := 79) (r := 4 + 4) DM_X7_person_76 rfl fRX7_197 (co0 cK_4) rfl ?_
        refine r_iloadn (q := 80) DM_X7_person_79 rfl rfl ?_
        refine r_iald (q := 81) DM_X7_person_80 rfl (co4 cK_4) (by decide) ⟨h.1, ?_⟩
        have i5 := h.1
        replace h := h.2
        exact r_ret (v := some (.inl (μ (4 + 4) x1))) ⟨DM_X7_person_81, Or.inl rfl⟩ h
      · replace h := h.2.2.2.2.1 cc
        refine ⟨70, 82, by rw [cc]; rfl, by decide, ?_⟩
        refine r_aloadn (q := 83) DM_X7_person_82 rfl rfl ?_
        refine r_getR (q := 86) (r := 4) DM_X7_person_83 rfl fRX7_25 sh_0 rfl ?_
        refine r_iloadn (q := 87) DM_X7_person_86 rfl rfl ?_
        have i6 := h.1
        replace h := h.2
        have i7 := h.1
        replace h := h.2
        refine r_callVi [.inl x1] (q := 90) DM_X7_person_87 rfl kM_X2_stateOf lRX7_200 (co0 cK_4) rfl rfl (by decide) (Nat.le_of_ble_eq_true rfl) rfl (k_X2_stateOf cK_4 i6 i7 ⟨_, rfl, ?_⟩)
        exact r_ret (v := some (.inl (cState (cv μ 4) x1 (μ 4 4)))) ⟨DM_X7_person_90, Or.inl rfl⟩ h
      · replace h := h.2.2.2.2.2.1 cc
        refine ⟨79, 91, by rw [cc]; rfl, by decide, ?_⟩
        refine r_aloadn (q := 92) DM_X7_person_91 rfl rfl ?_
        refine r_getR (q := 95) (r := 4) DM_X7_person_92 rfl fRX7_25 sh_0 rfl ?_
        refine r_iloadn (q := 96) DM_X7_person_95 rfl rfl ?_
        have i8 := h.1
        replace h := h.2
        have i9 := h.1
        replace h := h.2
        refine r_callVi [.inl x1] (q := 99) DM_X7_person_96 rfl kM_X2_stateOf lRX7_200 (co0 cK_4) rfl rfl (by decide) (Nat.le_of_ble_eq_true rfl) rfl (k_X2_stateOf cK_4 i8 i9 ⟨_, rfl, ?_⟩)
        refine r_iconst (q := 100) (n := 1) DM_X7_person_99 rfl ?_
        have i10 := h.1
        replace h := h.2
        refine r_icne (q := 103) (t := 122) DM_X7_person_100 rfl (by decide) ⟨⟨i10, (by decide)⟩, fun cc => ?_, fun cc => ?_⟩
        · replace h := h.1 cc
          refine r_iconst (q := 123) (n := 0) DM_X7_person_122 rfl ?_
          exact r_ret (v := some (.inl 0)) ⟨DM_X7_person_123, Or.inl rfl⟩ h
        · replace h := h.2 cc
          refine r_aloadn (q := 104) DM_X7_person_103 rfl rfl ?_
          refine r_getR (q := 107) (r := 4) DM_X7_person_104 rfl fRX7_25 sh_0 rfl ?_
          refine r_iloadn (q := 108) DM_X7_person_107 rfl rfl ?_
          refine r_callVi [.inl x1] (q := 111) DM_X7_person_108 rfl kM_X2_freeDay lRX7_203 (co0 cK_4) rfl rfl (by decide) (Nat.le_of_ble_eq_true rfl) rfl (k_X2_freeDay cK_4 i9 ⟨_, rfl, ?_⟩)
          refine r_aloadn (q := 112) DM_X7_person_111 rfl rfl ?_
          refine r_getR (q := 115) (r := 4) DM_X7_person_112 rfl fRX7_25 sh_0 rfl ?_
          refine v_getI (q := 118) (ji := 4) DM_X7_person_115 rfl fRX7_145 (co0 cK_4) rfl rfl ?_
          refine r_isub (q := 119) DM_X7_person_118 rfl ?_
          refine r_goto (q := 123) DM_X7_person_119 (by decide) ?_
          exact r_ret (v := some (.inl ((μ (4 + 8) x1 + μ (4 + 6) x1) - (μ 4 4)))) ⟨DM_X7_person_123, Or.inl rfl⟩ h
      · replace h := h.2.2.2.2.2.2.1 cc
        refine ⟨112, 124, by rw [cc]; rfl, by decide, ?_⟩
        refine r_aloadn (q := 125) DM_X7_person_124 rfl rfl ?_
        refine r_getR (q := 128) (r := 4) DM_X7_person_125 rfl fRX7_25 sh_0 rfl ?_
        refine r_iloadn (q := 129) DM_X7_person_128 rfl rfl ?_
        refine r_aloadn (q := 130) DM_X7_person_129 rfl rfl ?_
        refine r_getR (q := 133) (r := 4) DM_X7_person_130 rfl fRX7_25 sh_0 rfl ?_
        refine v_getI (q := 136) (ji := 4) DM_X7_person_133 rfl fRX7_145 (co0 cK_4) rfl rfl ?_
        have i11 := h.1
        replace h := h.2
        have i12 := h.1
        replace h := h.2
        have i13 := h.1
        replace h := h.2
        refine r_callVi [.inl x1, .inl (μ 4 4)] (q := 139) DM_X7_person_136 rfl kM_X2_waitsOn lRX7_167 (co0 cK_4) rfl rfl (by decide) (Nat.le_of_ble_eq_true rfl) rfl (k_X2_waitsOn cK_4 i11 i12 i13 ⟨_, rfl, ?_⟩)
        refine r_bbeq (q := 142) (t := 153) DM_X7_person_139 rfl (by decide) ⟨fun cc => ?_, fun cc => ?_⟩
        · replace h := h.1 cc
          refine r_ldc (q := 155) (n := (-1000000)) DM_X7_person_153 rfl nRX7_209 ?_
          exact r_ret (v := some (.inl (-1000000))) ⟨DM_X7_person_155, Or.inl rfl⟩ h
        · replace h := h.2 cc
          refine r_aloadn (q := 143) DM_X7_person_142 rfl rfl ?_
          refine r_getR (q := 146) (r := 4) DM_X7_person_143 rfl fRX7_25 sh_0 rfl ?_
          refine r_iloadn (q := 147) DM_X7_person_146 rfl rfl ?_
          have i14 := h.1
          replace h := h.2
          have i15 := h.1
          replace h := h.2
          have i16 := h.1
          replace h := h.2
          refine r_callVi [.inl x1] (q := 150) DM_X7_person_147 rfl kM_X2_howManyBefore lRX7_206 (co0 cK_4) rfl rfl (by decide) (Nat.le_of_ble_eq_true rfl) rfl (k_X2_howManyBefore cK_4 i11 i14 i15 i16 ⟨_, rfl, ?_⟩)
          refine r_goto (q := 155) DM_X7_person_150 (by decide) ?_
          exact r_ret (v := some (.inl (cntI (fun p => cWait (cv μ 4) p (μ 4 4) && cBef (cv μ 4) p x1 (cTurn (cv μ 4) (μ 4 4) 0)) (μ 4 1)))) ⟨DM_X7_person_155, Or.inl rfl⟩ h
    · replace h := h.1 cc
      refine r_ldc (q := 158) (n := (-1000001)) DM_X7_person_156 rfl nRX7_69 ?_
      exact r_ret (v := some (.inl (-1000001))) ⟨DM_X7_person_158, Or.inl rfl⟩ h
  · replace h := h.2 cc
    refine r_ldc (q := 10) (n := (-1000001)) DM_X7_person_8 rfl nRX7_69 ?_
    exact r_ret (v := some (.inl (-1000001))) ⟨DM_X7_person_10, Or.inl rfl⟩ h
set_option maxRecDepth 20000 in
theorem s_X8_passedBy {E : Ex} {μ : Mem} {Q : Option Vl → Mem → Prop} {x1 : Int} {v : CV}  (h : Gg E 2 M_X8_passedBy 4 [some (.inr 83), some (.inl x1), some (.inl 0), some (.inl 0), none, none] [] μ Q) : Cl E 2 M_X8_passedBy [.inr 83, .inl x1] μ Q := by
  show Gg E 2 M_X8_passedBy 0 [some (.inr 83), some (.inl x1), none, none, none, none] [] μ Q
  refine r_iconst (q := 1) (n := 0) DM_X8_passedBy_0 rfl ?_
  refine v_istoren (q := 2) (ls' := [some (.inr 83), some (.inl x1), some (.inl 0), none, none, none]) DM_X8_passedBy_1 rfl (by decide) rfl ?_
  refine r_iconst (q := 3) (n := 0) DM_X8_passedBy_2 rfl ?_
  refine v_istoren (q := 4) (ls' := [some (.inr 83), some (.inl x1), some (.inl 0), some (.inl 0), none, none]) DM_X8_passedBy_3 rfl (by decide) rfl ?_
  exact h
set_option maxRecDepth 20000 in
theorem s_X8_passedBy_4 {E : Ex} {μ : Mem} {Q : Option Vl → Mem → Prop} {x1 x2 x3 : Int} {v : CV}  (h : inR x3 ∧ inR (μ 89 2) ∧ (x3 ≥ (μ 89 2) → Q (some (.inl x2)) μ) ∧ (¬ x3 ≥ (μ 89 2) → Gg E 2 M_X8_passedBy 20 [some (.inr 83), some (.inl x1), some (.inl x2), some (.inl x3), some (.inl 0), some (.inl 0)] [] μ Q)) : Gg E 2 M_X8_passedBy 4 [some (.inr 83), some (.inl x1), some (.inl x2), some (.inl x3), none, none] [] μ Q := by
  refine r_iloadn (q := 5) DM_X8_passedBy_4 rfl rfl ?_
  refine r_aloadn (q := 6) DM_X8_passedBy_5 rfl rfl ?_
  refine r_getR (q := 9) (r := 89) DM_X8_passedBy_6 rfl fRX8_25 sh_83 rfl ?_
  refine r_iconst (q := 10) (n := 2) DM_X8_passedBy_9 rfl ?_
  refine r_iald (q := 11) DM_X8_passedBy_10 rfl sh_89 (by decide) ⟨by decide, ?_⟩
  have i1 := h.1
  replace h := h.2
  have i2 := h.1
  replace h := h.2
  refine r_icge (q := 14) (t := 98) DM_X8_passedBy_11 rfl (by decide) ⟨⟨i1, i2⟩, fun cc => ?_, fun cc => ?_⟩
  · replace h := h.1 cc
    refine r_iloadn (q := 99) DM_X8_passedBy_98 rfl rfl ?_
    exact r_ret (v := some (.inl x2)) ⟨DM_X8_passedBy_99, Or.inl rfl⟩ h
  · replace h := h.2 cc
    refine r_iconst (q := 15) (n := 0) DM_X8_passedBy_14 rfl ?_
    refine v_istore (q := 17) (ls' := [some (.inr 83), some (.inl x1), some (.inl x2), some (.inl x3), some (.inl 0), none]) DM_X8_passedBy_15 rfl (by decide) rfl ?_
    refine r_iconst (q := 18) (n := 0) DM_X8_passedBy_17 rfl ?_
    refine v_istore (q := 20) (ls' := [some (.inr 83), some (.inl x1), some (.inl x2), some (.inl x3), some (.inl 0), some (.inl 0)]) DM_X8_passedBy_18 rfl (by decide) rfl ?_
    exact h
set_option maxRecDepth 20000 in
theorem s_X8_passedBy_20 {E : Ex} {μ : Mem} {Q : Option Vl → Mem → Prop} {x1 x2 x3 x4 x5 : Int} {v : CV}  (h : (0 ≤ 13 + 13 * x3 + 3 ∧ 13 + 13 * x3 + 3 < 91) ∧ inR x5 ∧ inR (μ 89 (13 + 13 * x3 + 3)) ∧ (x5 ≥ (μ 89 (13 + 13 * x3 + 3)) → inR x4 ∧ (x4 = 0 → Gg E 2 M_X8_passedBy 4 [some (.inr 83), some (.inl x1), some (.inl (x2 + 0)), some (.inl (x3 + 1)), none, none] [] μ Q) ∧ (¬ x4 = 0 → (Rel v (μ 89)) ∧ (0 ≤ x3 ∧ x3 < v 0 1) ∧ ((cWait v x3 (v 0 4)) = false → Gg E 2 M_X8_passedBy 4 [some (.inr 83), some (.inl x1), some (.inl (x2 + 0)), some (.inl (x3 + 1)), none, none] [] μ Q) ∧ ((cWait v x3 (v 0 4)) = true → Gg E 2 M_X8_passedBy 4 [some (.inr 83), some (.inl x1), some (.inl (x2 + 1)), some (.inl (x3 + 1)), none, none] [] μ Q))) ∧ (¬ x5 ≥ (μ 89 (13 + 13 * x3 + 3)) → inR x4 ∧ (x4 ≠ 0 → Gg E 2 M_X8_passedBy 20 [some (.inr 83), some (.inl x1), some (.inl x2), some (.inl x3), some (.inl 1), some (.inl (x5 + 1))] [] μ Q) ∧ (x4 = 0 → (0 ≤ 13 + 13 * x3 + (4 + x5) ∧ 13 + 13 * x3 + (4 + x5) < 91) ∧ inR (μ 89 (13 + 13 * x3 + (4 + x5))) ∧ inR x1 ∧ ((μ 89 (13 + 13 * x3 + (4 + x5))) ≠ x1 → Gg E 2 M_X8_passedBy 20 [some (.inr 83), some (.inl x1), some (.inl x2), some (.inl x3), some (.inl 0), some (.inl (x5 + 1))] [] μ Q) ∧ ((μ 89 (13 + 13 * x3 + (4 + x5))) = x1 → Gg E 2 M_X8_passedBy 20 [some (.inr 83), some (.inl x1), some (.inl x2), some (.inl x3), some (.inl 1), some (.inl (x5 + 1))] [] μ Q)))) : Gg E 2 M_X8_passedBy 20 [some (.inr 83), some (.inl x1), some (.inl x2), some (.inl x3), some (.inl x4), some (.inl x5)] [] μ Q := by
  refine r_iload (q := 22) DM_X8_passedBy_20 rfl rfl ?_
  refine r_aloadn (q := 23) DM_X8_passedBy_22 rfl rfl ?_
  refine r_getR (q := 26) (r := 89) DM_X8_passedBy_23 rfl fRX8_25 sh_83 rfl ?_
  refine r_iloadn (q := 27) DM_X8_passedBy_26 rfl rfl ?_
  refine r_iconst (q := 28) (n := 3) DM_X8_passedBy_27 rfl ?_
  have i1 := h.1
  replace h := h.2
  refine r_callSi [.inr 89, .inl x3, .inl 3] (q := 31) DM_X8_passedBy_28 rfl kM_X8_of lRX8_158 rfl (by decide) (Nat.le_of_ble_eq_true rfl) rfl (k_X8_of sh_89 i1 ⟨_, rfl, ?_⟩)
  have i2 := h.1
  replace h := h.2
  have i3 := h.1
  replace h := h.2
  refine r_icge (q := 34) (t := 68) DM_X8_passedBy_31 rfl (by decide) ⟨⟨i2, i3⟩, fun cc => ?_, fun cc => ?_⟩
  · replace h := h.1 cc
    refine r_iloadn (q := 69) DM_X8_passedBy_68 rfl rfl ?_
    refine r_iload (q := 71) DM_X8_passedBy_69 rfl rfl ?_
    have i4 := h.1
    replace h := h.2
    refine r_ifeq (q := 74) (t := 89) DM_X8_passedBy_71 rfl (by decide) ⟨i4, fun cc => ?_, fun cc => ?_⟩
    · replace h := h.1 cc
      refine r_iconst (q := 90) (n := 0) DM_X8_passedBy_89 rfl ?_
      refine r_iadd (q := 91) DM_X8_passedBy_90 rfl ?_
      refine v_istoren (q := 92) (ls' := [some (.inr 83), some (.inl x1), some (.inl (x2 + 0)), some (.inl x3), some (.inl x4), some (.inl x5)]) DM_X8_passedBy_91 rfl (by decide) rfl ?_
      refine v_iinc (q := 95) (ls' := [some (.inr 83), some (.inl x1), some (.inl (x2 + 0)), some (.inl (x3 + 1)), some (.inl x4), some (.inl x5)]) DM_X8_passedBy_92 rfl rfl (by decide) rfl ?_
      refine r_goto (q := 4) DM_X8_passedBy_95 (by decide) ?_
      exact Gg.weak [true, true, true, true, false, false] h
    · replace h := h.2 cc
      refine r_aloadn (q := 75) DM_X8_passedBy_74 rfl rfl ?_
      refine r_getR (q := 78) (r := 89) DM_X8_passedBy_75 rfl fRX8_25 sh_83 rfl ?_
      refine r_iloadn (q := 79) DM_X8_passedBy_78 rfl rfl ?_
      have i5 := h.1
      replace h := h.2
      have i6 := h.1
      replace h := h.2
      refine r_callSi [.inr 89, .inl x3] (q := 82) DM_X8_passedBy_79 rfl kM_X8_waits lRX8_172 rfl (by decide) (Nat.le_of_ble_eq_true rfl) rfl (k_X8_waits sh_89 i5 i6 ⟨_, rfl, ?_⟩)
      refine r_bbeq (q := 85) (t := 89) DM_X8_passedBy_82 rfl (by decide) ⟨fun cc => ?_, fun cc => ?_⟩
      · replace h := h.1 cc
        refine r_iconst (q := 90) (n := 0) DM_X8_passedBy_89 rfl ?_
        refine r_iadd (q := 91) DM_X8_passedBy_90 rfl ?_
        refine v_istoren (q := 92) (ls' := [some (.inr 83), some (.inl x1), some (.inl (x2 + 0)), some (.inl x3), some (.inl x4), some (.inl x5)]) DM_X8_passedBy_91 rfl (by decide) rfl ?_
        refine v_iinc (q := 95) (ls' := [some (.inr 83), some (.inl x1), some (.inl (x2 + 0)), some (.inl (x3 + 1)), some (.inl x4), some (.inl x5)]) DM_X8_passedBy_92 rfl rfl (by decide) rfl ?_
        refine r_goto (q := 4) DM_X8_passedBy_95 (by decide) ?_
        exact Gg.weak [true, true, true, true, false, false] h
      · replace h := h.2 cc
        refine r_iconst (q := 86) (n := 1) DM_X8_passedBy_85 rfl ?_
        refine r_goto (q := 90) DM_X8_passedBy_86 (by decide) ?_
        refine r_iadd (q := 91) DM_X8_passedBy_90 rfl ?_
        refine v_istoren (q := 92) (ls' := [some (.inr 83), some (.inl x1), some (.inl (x2 + 1)), some (.inl x3), some (.inl x4), some (.inl x5)]) DM_X8_passedBy_91 rfl (by decide) rfl ?_
        refine v_iinc (q := 95) (ls' := [some (.inr 83), some (.inl x1), some (.inl (x2 + 1)), some (.inl (x3 + 1)), some (.inl x4), some (.inl x5)]) DM_X8_passedBy_92 rfl rfl (by decide) rfl ?_
        refine r_goto (q := 4) DM_X8_passedBy_95 (by decide) ?_
        exact Gg.weak [true, true, true, true, false, false] h
  · replace h := h.2 cc
    refine r_iload (q := 36) DM_X8_passedBy_34 rfl rfl ?_
    have i7 := h.1
    replace h := h.2
    refine r_ifne (q := 39) (t := 55) DM_X8_passedBy_36 rfl (by decide) ⟨i7, fun cc => ?_, fun cc => ?_⟩
    · replace h := h.1 cc
      refine r_iconst (q := 56) (n := 1) DM_X8_passedBy_55 rfl ?_
      refine r_goto (q := 60) DM_X8_passedBy_56 (by decide) ?_
      refine v_istore (q := 62) (ls' := [some (.inr 83), some (.inl x1), some (.inl x2), some (.inl x3), some (.inl 1), some (.inl x5)]) DM_X8_passedBy_60 rfl (by decide) rfl ?_
      refine v_iinc (q := 65) (ls' := [some (.inr 83), some (.inl x1), some (.inl x2), some (.inl x3), some (.inl 1), some (.inl (x5 + 1))]) DM_X8_passedBy_62 rfl rfl (by decide) rfl ?_
      refine r_goto (q := 20) DM_X8_passedBy_65 (by decide) ?_
      exact h
    · replace h := h.2 cc
      refine r_aloadn (q := 40) DM_X8_passedBy_39 rfl rfl ?_
      refine r_getR (q := 43) (r := 89) DM_X8_passedBy_40 rfl fRX8_25 sh_83 rfl ?_
      refine r_iloadn (q := 44) DM_X8_passedBy_43 rfl rfl ?_
      refine r_iconst (q := 45) (n := 4) DM_X8_passedBy_44 rfl ?_
      refine r_iload (q := 47) DM_X8_passedBy_45 rfl rfl ?_
      refine r_iadd (q := 48) DM_X8_passedBy_47 rfl ?_
      have i8 := h.1
      replace h := h.2
      refine r_callSi [.inr 89, .inl x3, .inl (4 + x5)] (q := 51) DM_X8_passedBy_48 rfl kM_X8_of lRX8_158 rfl (by decide) (Nat.le_of_ble_eq_true rfl) rfl (k_X8_of sh_89 i8 ⟨_, rfl, ?_⟩)
      refine r_iloadn (q := 52) DM_X8_passedBy_51 rfl rfl ?_
      have i9 := h.1
      replace h := h.2
      have i10 := h.1
      replace h := h.2
      refine r_icne (q := 55) (t := 59) DM_X8_passedBy_52 rfl (by decide) ⟨⟨i9, i10⟩, fun cc => ?_, fun cc => ?_⟩
      · replace h := h.1 cc
        refine r_iconst (q := 60) (n := 0) DM_X8_passedBy_59 rfl ?_
        refine v_istore (q := 62) (ls' := [some (.inr 83), some (.inl x1), some (.inl x2), some (.inl x3), some (.inl 0), some (.inl x5)]) DM_X8_passedBy_60 rfl (by decide) rfl ?_
        refine v_iinc (q := 65) (ls' := [some (.inr 83), some (.inl x1), some (.inl x2), some (.inl x3), some (.inl 0), some (.inl (x5 + 1))]) DM_X8_passedBy_62 rfl rfl (by decide) rfl ?_
        refine r_goto (q := 20) DM_X8_passedBy_65 (by decide) ?_
        exact h
      · replace h := h.2 cc
        refine r_iconst (q := 56) (n := 1) DM_X8_passedBy_55 rfl ?_
        refine r_goto (q := 60) DM_X8_passedBy_56 (by decide) ?_
        refine v_istore (q := 62) (ls' := [some (.inr 83), some (.inl x1), some (.inl x2), some (.inl x3), some (.inl 1), some (.inl x5)]) DM_X8_passedBy_60 rfl (by decide) rfl ?_
        refine v_iinc (q := 65) (ls' := [some (.inr 83), some (.inl x1), some (.inl x2), some (.inl x3), some (.inl 1), some (.inl (x5 + 1))]) DM_X8_passedBy_62 rfl rfl (by decide) rfl ?_
        refine r_goto (q := 20) DM_X8_passedBy_65 (by decide) ?_
        exact h
set_option maxRecDepth 20000 in
theorem s_X8_frees {E : Ex} {μ : Mem} {Q : Option Vl → Mem → Prop} {x1 : Int}  (ix1 : inR x1) (h : inR (μ 89 0) ∧ ((0 < μ 89 0) → ((0 ≤ x1 ∧ x1 ≤ 1) → Gg E 3 M_X8_frees 26 [some (.inr 83), some (.inl x1), some (.inl 0), some (.inl 1)] [] μ Q) ∧ (¬ (0 ≤ x1 ∧ x1 ≤ 1) → Q (some (.inl (-1000001))) μ)) ∧ (¬ (0 < μ 89 0) → Q (some (.inl (-1000002))) μ)) : Cl E 3 M_X8_frees [.inr 83, .inl x1] μ Q := by
  show Gg E 3 M_X8_frees 0 [some (.inr 83), some (.inl x1), none, none] [] μ Q
  refine r_aloadn (q := 1) DM_X8_frees_0 rfl rfl ?_
  have i1 := h.1
  replace h := h.2
  refine r_callVi [] (q := 4) DM_X8_frees_1 rfl kM_X8_isCourt lRX8_200 sh_83 rfl rfl (by decide) (Nat.le_of_ble_eq_true rfl) rfl (k_X8_isCourt i1 ⟨_, rfl, ?_⟩)
  refine r_bine (q := 7) (t := 10) DM_X8_frees_4 rfl (by decide) ⟨fun cc => ?_, fun cc => ?_⟩
  · replace h := h.1 cc
    refine r_iloadn (q := 11) DM_X8_frees_10 rfl rfl ?_
    refine r_iconst (q := 12) (n := 0) DM_X8_frees_11 rfl ?_
    refine r_iconst (q := 13) (n := 1) DM_X8_frees_12 rfl ?_
    refine r_callSi [.inl x1, .inl 0, .inl 1] (q := 16) DM_X8_frees_13 rfl kM_X8_in lRX8_65 rfl (by decide) (Nat.le_of_ble_eq_true rfl) rfl (k_X8_in ix1 (by decide) (by decide) ⟨_, rfl, ?_⟩)
    refine r_bine (q := 19) (t := 22) DM_X8_frees_16 rfl (by decide) ⟨fun cc => ?_, fun cc => ?_⟩
    · replace h := h.1 cc
      refine r_iconst (q := 23) (n := 0) DM_X8_frees_22 rfl ?_
      refine v_istoren (q := 24) (ls' := [some (.inr 83), some (.inl x1), some (.inl 0), none]) DM_X8_frees_23 rfl (by decide) rfl ?_
      refine r_iconst (q := 25) (n := 1) DM_X8_frees_24 rfl ?_
      refine v_istoren (q := 26) (ls' := [some (.inr 83), some (.inl x1), some (.inl 0), some (.inl 1)]) DM_X8_frees_25 rfl (by decide) rfl ?_
      exact h
    · replace h := h.2 cc
      refine r_ldc (q := 21) (n := (-1000001)) DM_X8_frees_19 rfl nRX8_73 ?_
      exact r_ret (v := some (.inl (-1000001))) ⟨DM_X8_frees_21, Or.inl rfl⟩ h
  · replace h := h.2 cc
    refine r_ldc (q := 9) (n := (-1000002)) DM_X8_frees_7 rfl nRX8_203 ?_
    exact r_ret (v := some (.inl (-1000002))) ⟨DM_X8_frees_9, Or.inl rfl⟩ h
set_option maxRecDepth 20000 in
theorem s_X8_frees_26 {E : Ex} {μ : Mem} {Q : Option Vl → Mem → Prop} {x1 x2 x3 : Int}  (h : inR x3 ∧ (x3 ≥ 8 → inR x1 ∧ (x1 ≠ 0 → Cl E 2 M_X8_passedBy [.inr 83, .inl x2] μ (fun vv μ3 => ∃ v4, vv = some (.inl v4) ∧ Q (some (.inl v4)) μ3)) ∧ (x1 = 0 → Q (some (.inl x2)) μ)) ∧ (¬ x3 ≥ 8 → Cl E 2 M_X8_passedBy [.inr 83, .inl x3] μ (fun vv μ5 => ∃ v6, vv = some (.inl v6) ∧ Cl E 2 M_X8_passedBy [.inr 83, .inl x2] μ5 (fun vv μ7 => ∃ v8, vv = some (.inl v8) ∧ inR v6 ∧ inR v8 ∧ (v6 ≤ v8 → Gg E 3 M_X8_frees 26 [some (.inr 83), some (.inl x1), some (.inl x2), some (.inl (x3 + 1))] [] μ7 Q) ∧ (¬ v6 ≤ v8 → Gg E 3 M_X8_frees 26 [some (.inr 83), some (.inl x1), some (.inl x3), some (.inl (x3 + 1))] [] μ7 Q))))) : Gg E 3 M_X8_frees 26 [some (.inr 83), some (.inl x1), some (.inl x2), some (.inl x3)] [] μ Q := by
  refine r_iloadn (q := 27) DM_X8_frees_26 rfl rfl ?_
  refine r_bipush (q := 29) (n := 8) DM_X8_frees_27 rfl (by decide) ?_
  have i1 := h.1
  replace h := h.2
  refine r_icge (q := 32) (t := 57) DM_X8_frees_29 rfl (by decide) ⟨⟨i1, (by decide)⟩, fun cc => ?_, fun cc => ?_⟩
  · replace h := h.1 cc
    refine r_iloadn (q := 58) DM_X8_frees_57 rfl rfl ?_
    have i2 := h.1
    replace h := h.2
    refine r_ifne (q := 61) (t := 65) DM_X8_frees_58 rfl (by decide) ⟨i2, fun cc => ?_, fun cc => ?_⟩
    · replace h := h.1 cc
      refine r_aloadn (q := 66) DM_X8_frees_65 rfl rfl ?_
      refine r_iloadn (q := 67) DM_X8_frees_66 rfl rfl ?_
      refine r_callVi [.inl x2] (q := 70) DM_X8_frees_67 rfl kM_X8_passedBy lRX8_245 sh_83 rfl rfl (by decide) (Nat.le_of_ble_eq_true rfl) rfl (Cl.imp h (fun vv μ3 h => ?_))
      obtain ⟨v4, hv, h⟩ := h
      refine ⟨v4, hv, ?_⟩
      exact r_ret (v := some (.inl v4)) ⟨DM_X8_frees_70, Or.inl rfl⟩ h
    · replace h := h.2 cc
      refine r_iloadn (q := 62) DM_X8_frees_61 rfl rfl ?_
      refine r_goto (q := 70) DM_X8_frees_62 (by decide) ?_
      exact r_ret (v := some (.inl x2)) ⟨DM_X8_frees_70, Or.inl rfl⟩ h
  · replace h := h.2 cc
    refine r_aloadn (q := 33) DM_X8_frees_32 rfl rfl ?_
    refine r_iloadn (q := 34) DM_X8_frees_33 rfl rfl ?_
    refine r_callVi [.inl x3] (q := 37) DM_X8_frees_34 rfl kM_X8_passedBy lRX8_245 sh_83 rfl rfl (by decide) (Nat.le_of_ble_eq_true rfl) rfl (Cl.imp h (fun vv μ5 h => ?_))
    obtain ⟨v6, hv, h⟩ := h
    refine ⟨v6, hv, ?_⟩
    refine r_aloadn (q := 38) DM_X8_frees_37 rfl rfl ?_
    refine r_iloadn (q := 39) DM_X8_frees_38 rfl rfl ?_
    refine r_callVi [.inl x2] (q := 42) DM_X8_frees_39 rfl kM_X8_passedBy lRX8_245 sh_83 rfl rfl (by decide) (Nat.le_of_ble_eq_true rfl) rfl (Cl.imp h (fun vv μ7 h => ?_))
    obtain ⟨v8, hv, h⟩ := h
    refine ⟨v8, hv, ?_⟩
    have i9 := h.1
    replace h := h.2
    have i10 := h.1
    replace h := h.2
    refine r_icle (q := 45) (t := 49) DM_X8_frees_42 rfl (by decide) ⟨⟨i9, i10⟩, fun cc => ?_, fun cc => ?_⟩
    · replace h := h.1 cc
      refine r_iloadn (q := 50) DM_X8_frees_49 rfl rfl ?_
      refine v_istoren (q := 51) (ls' := [some (.inr 83), some (.inl x1), some (.inl x2), some (.inl x3)]) DM_X8_frees_50 rfl (by decide) rfl ?_
      refine v_iinc (q := 54) (ls' := [some (.inr 83), some (.inl x1), some (.inl x2), some (.inl (x3 + 1))]) DM_X8_frees_51 rfl rfl (by decide) rfl ?_
      refine r_goto (q := 26) DM_X8_frees_54 (by decide) ?_
      exact h
    · replace h := h.2 cc
      refine r_iloadn (q := 46) DM_X8_frees_45 rfl rfl ?_
      refine r_goto (q := 50) DM_X8_frees_46 (by decide) ?_
      refine v_istoren (q := 51) (ls' := [some (.inr 83), some (.inl x1), some (.inl x3), some (.inl x3)]) DM_X8_frees_50 rfl (by decide) rfl ?_
      refine v_iinc (q := 54) (ls' := [some (.inr 83), some (.inl x1), some (.inl x3), some (.inl (x3 + 1))]) DM_X8_frees_51 rfl rfl (by decide) rfl ?_
      refine r_goto (q := 26) DM_X8_frees_54 (by decide) ?_
      exact h
set_option maxRecDepth 20000 in
theorem s_X7_frees {E : Ex} {μ : Mem} {Q : Option Vl → Mem → Prop} {x1 : Int}  (ix1 : inR x1) (h : inR (μ 4 0) ∧ ((μ 4 0) ≠ 0 → ((0 ≤ x1 ∧ x1 < 2) → (RgC μ 4) ∧ (VC (cv μ 4)) ∧ ((0 : Int) ≤ 0 ∧ (0 : Int) < 8) ∧ Gg E 3 M_X7_frees 38 [some (.inr 0), some (.inl x1), some (.inl 0), some (.inl (cntI (fun p => cWait (cv μ 4) p (μ 4 4) && (cBits (cv μ 4) p).testBit (Int.toNat 0)) (μ 4 1))), some (.inl 1), none] [] μ Q) ∧ (¬ (0 ≤ x1 ∧ x1 < 2) → Q (some (.inl (-1000001))) μ)) ∧ ((μ 4 0) = 0 → Q (some (.inl (-1000002))) μ)) : Cl E 3 M_X7_frees [.inr 0, .inl x1] μ Q := by
  show Gg E 3 M_X7_frees 0 [some (.inr 0), some (.inl x1), none, none, none, none] [] μ Q
  refine r_aloadn (q := 1) DM_X7_frees_0 rfl rfl ?_
  refine r_getR (q := 4) (r := 4) DM_X7_frees_1 rfl fRX7_25 sh_0 rfl ?_
  refine v_getI (q := 7) (ji := 0) DM_X7_frees_4 rfl fRX7_140 (co0 cK_4) rfl rfl ?_
  have i1 := h.1
  replace h := h.2
  refine r_ifne (q := 10) (t := 13) DM_X7_frees_7 rfl (by decide) ⟨i1, fun cc => ?_, fun cc => ?_⟩
  · replace h := h.1 cc
    refine r_iloadn (q := 14) DM_X7_frees_13 rfl rfl ?_
    refine r_iconst (q := 15) (n := 2) DM_X7_frees_14 rfl ?_
    refine r_callSi [.inl x1, .inl 2] (q := 18) DM_X7_frees_15 rfl kM_X7_isIn lRX7_65 rfl (by decide) (Nat.le_of_ble_eq_true rfl) rfl (k_X7_isIn ix1 (by decide) ⟨_, rfl, ?_⟩)
    refine r_bine (q := 21) (t := 24) DM_X7_frees_18 rfl (by decide) ⟨fun cc => ?_, fun cc => ?_⟩
    · replace h := h.1 cc
      refine r_iconst (q := 25) (n := 0) DM_X7_frees_24 rfl ?_
      refine v_istoren (q := 26) (ls' := [some (.inr 0), some (.inl x1), some (.inl 0), none, none, none]) DM_X7_frees_25 rfl (by decide) rfl ?_
      refine r_aloadn (q := 27) DM_X7_frees_26 rfl rfl ?_
      refine r_getR (q := 30) (r := 4) DM_X7_frees_27 rfl fRX7_25 sh_0 rfl ?_
      refine r_iconst (q := 31) (n := 0) DM_X7_frees_30 rfl ?_
      have i2 := h.1
      replace h := h.2
      have i3 := h.1
      replace h := h.2
      have i4 := h.1
      replace h := h.2
      refine r_callVi [.inl 0] (q := 34) DM_X7_frees_31 rfl kM_X2_howManyWaitWith lRX7_247 (co0 cK_4) rfl rfl (by decide) (Nat.le_of_ble_eq_true rfl) rfl (k_X2_howManyWaitWith cK_4 i2 i3 i4 ⟨_, rfl, ?_⟩)
      refine v_istoren (q := 35) (ls' := [some (.inr 0), some (.inl x1), some (.inl 0), some (.inl (cntI (fun p => cWait (cv μ 4) p (μ 4 4) && (cBits (cv μ 4) p).testBit (Int.toNat 0)) (μ 4 1))), none, none]) DM_X7_frees_34 rfl (by decide) rfl ?_
      refine r_iconst (q := 36) (n := 1) DM_X7_frees_35 rfl ?_
      refine v_istore (q := 38) (ls' := [some (.inr 0), some (.inl x1), some (.inl 0), some (.inl (cntI (fun p => cWait (cv μ 4) p (μ 4 4) && (cBits (cv μ 4) p).testBit (Int.toNat 0)) (μ 4 1))), some (.inl 1), none]) DM_X7_frees_36 rfl (by decide) rfl ?_
      exact h
    · replace h := h.2 cc
      refine r_ldc (q := 23) (n := (-1000001)) DM_X7_frees_21 rfl nRX7_69 ?_
      exact r_ret (v := some (.inl (-1000001))) ⟨DM_X7_frees_23, Or.inl rfl⟩ h
  · replace h := h.2 cc
    refine r_ldc (q := 12) (n := (-1000002)) DM_X7_frees_10 rfl nRX7_144 ?_
    exact r_ret (v := some (.inl (-1000002))) ⟨DM_X7_frees_12, Or.inl rfl⟩ h
set_option maxRecDepth 20000 in
theorem s_X7_frees_38 {E : Ex} {μ : Mem} {Q : Option Vl → Mem → Prop} {x1 x2 x3 x4 : Int}  (h : inR x4 ∧ (x4 ≥ 8 → inR x1 ∧ (x1 ≠ 0 → Q (some (.inl x3)) μ) ∧ (x1 = 0 → Q (some (.inl x2)) μ)) ∧ (¬ x4 ≥ 8 → (RgC μ 4) ∧ (VC (cv μ 4)) ∧ ((0 : Int) ≤ x4 ∧ (x4 : Int) < 8) ∧ inR (cntI (fun p => cWait (cv μ 4) p (μ 4 4) && (cBits (cv μ 4) p).testBit (Int.toNat x4)) (μ 4 1)) ∧ inR x3 ∧ ((cntI (fun p => cWait (cv μ 4) p (μ 4 4) && (cBits (cv μ 4) p).testBit (Int.toNat x4)) (μ 4 1)) ≤ x3 → Gg E 3 M_X7_frees 38 [some (.inr 0), some (.inl x1), some (.inl x2), some (.inl x3), some (.inl (x4 + 1)), none] [] μ Q) ∧ (¬ (cntI (fun p => cWait (cv μ 4) p (μ 4 4) && (cBits (cv μ 4) p).testBit (Int.toNat x4)) (μ 4 1)) ≤ x3 → Gg E 3 M_X7_frees 38 [some (.inr 0), some (.inl x1), some (.inl x4), some (.inl (cntI (fun p => cWait (cv μ 4) p (μ 4 4) && (cBits (cv μ 4) p).testBit (Int.toNat x4)) (μ 4 1))), some (.inl (x4 + 1)), none] [] μ Q))) : Gg E 3 M_X7_frees 38 [some (.inr 0), some (.inl x1), some (.inl x2), some (.inl x3), some (.inl x4), none] [] μ Q := by
  refine r_iload (q := 40) DM_X7_frees_38 rfl rfl ?_
  refine r_bipush (q := 42) (n := 8) DM_X7_frees_40 rfl (by decide) ?_
  have i1 := h.1
  replace h := h.2
  refine r_icge (q := 45) (t := 74) DM_X7_frees_42 rfl (by decide) ⟨⟨i1, (by decide)⟩, fun cc => ?_, fun cc => ?_⟩
  · replace h := h.1 cc
    refine r_iloadn (q := 75) DM_X7_frees_74 rfl rfl ?_
    have i2 := h.1
    replace h := h.2
    refine r_ifne (q := 78) (t := 82) DM_X7_frees_75 rfl (by decide) ⟨i2, fun cc => ?_, fun cc => ?_⟩
    · replace h := h.1 cc
      refine r_iloadn (q := 83) DM_X7_frees_82 rfl rfl ?_
      exact r_ret (v := some (.inl x3)) ⟨DM_X7_frees_83, Or.inl rfl⟩ h
    · replace h := h.2 cc
      refine r_iloadn (q := 79) DM_X7_frees_78 rfl rfl ?_
      refine r_goto (q := 83) DM_X7_frees_79 (by decide) ?_
      exact r_ret (v := some (.inl x2)) ⟨DM_X7_frees_83, Or.inl rfl⟩ h
  · replace h := h.2 cc
    refine r_aloadn (q := 46) DM_X7_frees_45 rfl rfl ?_
    refine r_getR (q := 49) (r := 4) DM_X7_frees_46 rfl fRX7_25 sh_0 rfl ?_
    refine r_iload (q := 51) DM_X7_frees_49 rfl rfl ?_
    have i3 := h.1
    replace h := h.2
    have i4 := h.1
    replace h := h.2
    have i5 := h.1
    replace h := h.2
    refine r_callVi [.inl x4] (q := 54) DM_X7_frees_51 rfl kM_X2_howManyWaitWith lRX7_247 (co0 cK_4) rfl rfl (by decide) (Nat.le_of_ble_eq_true rfl) rfl (k_X2_howManyWaitWith cK_4 i3 i4 i5 ⟨_, rfl, ?_⟩)
    refine v_istore (q := 56) (ls' := [some (.inr 0), some (.inl x1), some (.inl x2), some (.inl x3), some (.inl x4), some (.inl (cntI (fun p => cWait (cv μ 4) p (μ 4 4) && (cBits (cv μ 4) p).testBit (Int.toNat x4)) (μ 4 1)))]) DM_X7_frees_54 rfl (by decide) rfl ?_
    refine r_iload (q := 58) DM_X7_frees_56 rfl rfl ?_
    refine r_iloadn (q := 59) DM_X7_frees_58 rfl rfl ?_
    have i6 := h.1
    replace h := h.2
    have i7 := h.1
    replace h := h.2
    refine r_icle (q := 62) (t := 68) DM_X7_frees_59 rfl (by decide) ⟨⟨i6, i7⟩, fun cc => ?_, fun cc => ?_⟩
    · replace h := h.1 cc
      refine v_iinc (q := 71) (ls' := [some (.inr 0), some (.inl x1), some (.inl x2), some (.inl x3), some (.inl (x4 + 1)), some (.inl (cntI (fun p => cWait (cv μ 4) p (μ 4 4) && (cBits (cv μ 4) p).testBit (Int.toNat x4)) (μ 4 1)))]) DM_X7_frees_68 rfl rfl (by decide) rfl ?_
      refine r_goto (q := 38) DM_X7_frees_71 (by decide) ?_
      exact Gg.weak [true, true, true, true, true, false] h
    · replace h := h.2 cc
      refine r_iload (q := 64) DM_X7_frees_62 rfl rfl ?_
      refine v_istoren (q := 65) (ls' := [some (.inr 0), some (.inl x1), some (.inl x2), some (.inl (cntI (fun p => cWait (cv μ 4) p (μ 4 4) && (cBits (cv μ 4) p).testBit (Int.toNat x4)) (μ 4 1))), some (.inl x4), some (.inl (cntI (fun p => cWait (cv μ 4) p (μ 4 4) && (cBits (cv μ 4) p).testBit (Int.toNat x4)) (μ 4 1)))]) DM_X7_frees_64 rfl (by decide) rfl ?_
      refine r_iload (q := 67) DM_X7_frees_65 rfl rfl ?_
      refine v_istoren (q := 68) (ls' := [some (.inr 0), some (.inl x1), some (.inl x4), some (.inl (cntI (fun p => cWait (cv μ 4) p (μ 4 4) && (cBits (cv μ 4) p).testBit (Int.toNat x4)) (μ 4 1))), some (.inl x4), some (.inl (cntI (fun p => cWait (cv μ 4) p (μ 4 4) && (cBits (cv μ 4) p).testBit (Int.toNat x4)) (μ 4 1)))]) DM_X7_frees_67 rfl (by decide) rfl ?_
      refine v_iinc (q := 71) (ls' := [some (.inr 0), some (.inl x1), some (.inl x4), some (.inl (cntI (fun p => cWait (cv μ 4) p (μ 4 4) && (cBits (cv μ 4) p).testBit (Int.toNat x4)) (μ 4 1))), some (.inl (x4 + 1)), some (.inl (cntI (fun p => cWait (cv μ 4) p (μ 4 4) && (cBits (cv μ 4) p).testBit (Int.toNat x4)) (μ 4 1)))]) DM_X7_frees_68 rfl rfl (by decide) rfl ?_
      refine r_goto (q := 38) DM_X7_frees_71 (by decide) ?_
      exact Gg.weak [true, true, true, true, true, false] h
section P56
variable {E : Ex} {μ : Mem} {Q : Option Vl → Mem → Prop} {x1 x2 x3 x4 x5 : Int}
theorem pr_count (hI : Inv μ) (i1 : inR x1) : Pair E 4 M_X7_count 2 M_X8_count [.inl x1] μ := by
  have hR := hI.2.2.2.2.1.1
  have g4 := hI.2.2.2.2.2.2.2.1
  obtain ⟨a0, a1, a2, a3, a4, -⟩ := hR.1
  obtain ⟨v0, v1, v3, v4, v5, -⟩ := hR.2.1
  obtain ⟨-, hz, hs, -⟩ := hI.2.2.2.2.2.2.1
  obtain ⟨ht, ht2, -⟩ := hI.2.1
  simp only [cv, Nat.add_zero] at a0 a1 a2 a3 a4 v0 v1 v3 v4 v5
  have hrow : ∀ i, 0 ≤ i → i < 8 → inR (μ (rw i) 2) ∧ inR (μ 84 i) ∧ decide (¬ μ (rw i) 2 = -1) = decide (¬ μ 84 i = -1000000) := by
    intro i i0 i1
    rcases hI.1 i i0 i1 with q | q
    · rw [decide_eq_false (fun z => z q.1), decide_eq_false (fun z => z q.2)]
      exact ⟨by omega, by omega, rfl⟩
    · rw [decide_eq_true (show ¬ μ (rw i) 2 = -1 by omega), decide_eq_true (show ¬ μ 84 i = -1000000 by omega)]
      exact ⟨by omega, by omega, rfl⟩
  have c0 := cntI_rng (f := fun p => decide (cState (cv μ 4) p (μ 4 4) = 0)) (μ 4 1) v1.1
  have c1 := cntI_rng (f := fun p => decide (cState (cv μ 4) p (μ 4 4) = 1)) (μ 4 1) v1.1
  have hst : 0 ≤ μ 4 2 ∧ μ 4 2 ≤ 4 := by rcases v0 with q | q <;> omega
  refine s_X7_count i1 ⟨i1, fun z => ?_, fun e => ⟨fun i i0 i1 => (hrow i i0 i1).1, ?_⟩, fun e => ?_, fun e => ?_, fun e => ?_, fun e => ?_, fun e => ⟨g4, v1, ?_⟩, fun e => ⟨g4, v1, ?_⟩, fun e => ?_, fun e => ?_, fun e => ?_, trivial⟩
  · exact ⟨_, rfl, by decide, s_X8_count (v := cv μ 4) i1 ⟨fun _ => ⟨fun q => absurd q (by omega), fun _ => ⟨rfl, hI⟩⟩, fun q => absurd q (by omega)⟩⟩
  · have cr := cntI_rng (f := fun i => decide (¬ μ (rw i) 2 = -1)) 8 (by decide)
    refine ⟨_, rfl, by omega, s_X8_count (v := cv μ 4) i1 ⟨fun q => absurd e q, fun _ => ?_⟩⟩
    obtain ⟨ans, ea⟩ : ∃ ans, ans = cntI (fun i => decide (¬ μ (rw i) 2 = -1)) 8 := ⟨_, rfl⟩
    rw [← ea]
    refine up_ind (N := 8) (P := fun p => Gg E 2 M_X8_count 8 [some (.inr 83), some (.inl x1), some (.inl (cntI (fun i => decide (¬ μ (rw i) 2 = -1)) p)), some (.inl p)] [] μ (fun w μ2 => w = some (.inl ans) ∧ Inv μ2)) 0 (by decide) ?_ (fun p p0 p1 ih => ?_)
    · exact s_X8_count_8 (v := cv μ 4) ⟨by decide, fun _ => ⟨by rw [ea], hI⟩, fun z => absurd (by decide) z⟩
    · obtain ⟨r1, r2, r3⟩ := hrow p p0 p1
      rw [cntI_succ p0] at ih
      refine s_X8_count_8 (v := cv μ 4) ⟨by omega, fun z => absurd z (by omega), fun _ => ⟨by omega, r2, fun z => ?_, fun z => ?_⟩⟩
      · rwa [r3, decide_eq_true z] at ih
      · rwa [r3, decide_eq_false (fun q => q z)] at ih
  all_goals refine ⟨_, rfl, by omega, s_X8_count (v := cv μ 4) i1 ?_⟩; subst e; refine ⟨fun _ => ⟨fun _ => ?_, fun z => absurd (by decide) z⟩, fun z => absurd z (by decide)⟩; repeat (first | (refine ⟨fun z => absurd rfl z, fun _ => ?_⟩) | (refine ⟨fun _ => ?_, fun z => absurd z (by decide)⟩))
  · exact ⟨by rw [a2], hI⟩
  · exact ⟨by rw [a0], hI⟩
  · exact ⟨by rw [a1], hI⟩
  · exact ⟨by rw [a3], hI⟩
  · exact ⟨hR, rfl, hI⟩
  · exact ⟨hR, rfl, hI⟩
  · exact ⟨by rw [a4], hI⟩
  · exact ⟨by rw [hs], hI⟩
  · exact ⟨by rw [ht], hI⟩
theorem bef_irr {v : CV} {p t : Int} : cBef v p p t = false := by
  have key : ∀ (n : Nat) (i : Int), cCmpF v p p t n i = 0 := by
    intro n
    induction n with
    | zero => intro i; unfold cCmpF; omega
    | succ n ih => intro i; unfold cCmpF; rw [if_pos rfl]; exact ih _
  have : cCmp v p p t = 0 := key _ _
  unfold cBef
  rw [if_pos rfl, if_pos this]
  exact decide_eq_false (by omega)
theorem k_X8_beforeIt {v : CV} (hR : Rel v (μ 89)) (hp : 0 ≤ x1 ∧ x1 < v 0 1) (h : Q (some (.inl (cntI (fun p => cWait v p (v 0 4) && cBef v p x1 (cTurn v (v 0 4) 0)) (v 0 1)))) μ) : Cl E 3 M_X8_beforeIt [.inr 83, .inl x1] μ Q := by
  have hn := hR.n
  have e2 := hR.a2
  refine s_X8_beforeIt (v := v) ?_
  refine up_ind (N := v 0 1) (P := fun p => Gg E 3 M_X8_beforeIt 4 [some (.inr 83), some (.inl x1), some (.inl (cntI (fun p => cWait v p (v 0 4) && cBef v p x1 (cTurn v (v 0 4) 0)) p)), some (.inl p)] [] μ Q) 0 hn.1 ?_ (fun p h1 h2 ih => ?_)
  · exact s_X8_beforeIt_4 (v := v) ⟨by omega, by omega, fun _ => h, fun z => absurd (show v 0 1 ≥ μ 89 2 by omega) z⟩
  · rw [cntI_succ h1] at ih
    refine s_X8_beforeIt_4 (v := v) ⟨by omega, by omega, fun z => absurd z (by omega), fun _ => ⟨by omega, fun z => ?_, fun z => ⟨hR, ⟨h1, h2⟩, fun z1 => ?_, fun z1 => ⟨hp, by decide, fun z2 => ?_, fun z2 => ?_⟩⟩⟩⟩
    · subst z; rwa [bef_irr, Bool.and_false] at ih
    · rwa [z1, Bool.false_and] at ih
    · rwa [z1, z2, Bool.true_and] at ih
    · rwa [z1, z2, Bool.true_and] at ih
theorem pr_person (hI : Inv μ) (hRo : RoOk E) (i1 : inR x1) (i2 : inR x2) : Pair E 4 M_X7_person 4 M_X8_person [.inl x1, .inl x2] μ := by
  have hR := hI.2.2.2.2.1.1
  have g4 := hI.2.2.2.2.2.2.2.1
  have e2 : μ 89 2 = μ 4 1 := hR.a2
  obtain ⟨-, v1, -, v4, -⟩ := hR.2.1
  simp only [cv, Nat.add_zero] at v1 v4
  refine s_X7_person i1 i2 ⟨by omega, fun z1 => ?_, fun z1 => ⟨_, rfl, by decide, s_X8_person (v := cv μ 4) i1 i2 ⟨by omega, fun q => absurd (by omega) z1, fun _ => ⟨rfl, hI⟩⟩⟩⟩
  obtain ⟨p0, p1, p2, p3, p4, p8, p9, -⟩ := hR.p z1.1 z1.2
  obtain ⟨o3, o4, o6, o7, -⟩ := hR.ok z1.1 z1.2
  have sr := cState_rng (v := cv μ 4) (p := x1) (d := μ 4 4)
  have sc := hR.2.2.2 x1 z1.1 z1.2
  replace p8 : μ 89 (13 + 13 * x1 + 8) = cState (cv μ 4) x1 (μ 4 4) := p8
  replace p9 : μ 89 (13 + 13 * x1 + 9) = if cState (cv μ 4) x1 (μ 4 4) = 1 then μ (4 + 8) x1 + μ (4 + 6) x1 - μ 4 4 else 0 := p9
  replace sc : μ (4 + 8) x1 = -1000000 ∨ (1 ≤ μ (4 + 8) x1 ∧ μ (4 + 8) x1 ≤ μ 4 4) := sc
  replace p1 : μ 89 (13 + 13 * x1 + 1) = μ (4 + 6) x1 := p1
  replace p2 : μ 89 (13 + 13 * x1 + 2) = μ (4 + 7) x1 := p2
  replace p3 : μ 89 (13 + 13 * x1 + 3) = μ (4 + 4) x1 := p3
  replace o4 : 1 ≤ μ (4 + 4) x1 ∧ μ (4 + 4) x1 ≤ 4 := o4
  replace o6 : 1 ≤ μ (4 + 6) x1 ∧ μ (4 + 6) x1 ≤ 30 := o6
  replace o7 : 1 ≤ μ (4 + 7) x1 ∧ μ (4 + 7) x1 ≤ 99 := o7
  have q6 : 0 ≤ x1 ∧ x1 < 6 := by omega
  have ref : ∀ {r : Int}, (inR x2 ∧ ((x2 < 0 ∨ 5 < x2) → r = -1000001) ∧ (x2 = 0 → r = μ (4 + 6) x1) ∧ (x2 = 1 → r = μ (4 + 7) x1) ∧ (x2 = 2 → r = μ (4 + 4) x1) ∧ (x2 = 3 → r = cState (cv μ 4) x1 (μ 4 4)) ∧ (x2 = 4 → r = if cState (cv μ 4) x1 (μ 4 4) = 1 then μ (4 + 8) x1 + μ (4 + 6) x1 - μ 4 4 else 0) ∧ (x2 = 5 → (cWait (cv μ 4) x1 (μ 4 4) = false → r = -1000000) ∧ (cWait (cv μ 4) x1 (μ 4 4) = true → r = cntI (fun p => cWait (cv μ 4) p (μ 4 4) && cBef (cv μ 4) p x1 (cTurn (cv μ 4) (μ 4 4) 0)) (μ 4 1)))) → Cl E 4 M_X8_person [.inr 83, .inl x1, .inl x2] μ (fun w μ2 => w = some (.inl r) ∧ Inv μ2) := by
    intro r hr
    obtain ⟨-, r0, r1, r2, r3, r4, r5, r6⟩ := hr
    refine s_X8_person (v := cv μ 4) i1 i2 ⟨by omega, fun _ => ⟨i2, fun z => ⟨by rw [r0 z], hI⟩, fun z => ⟨by omega, by rw [r1 z, p1], hI⟩, fun z => ⟨by omega, by rw [r2 z, p2], hI⟩, fun z => ⟨by omega, by rw [r3 z, p3], hI⟩, fun z => ⟨by omega, by rw [r4 z, p8], hI⟩, fun z => ⟨by omega, by rw [p8]; omega, fun z2 => ⟨?_, hI⟩, fun z2 => ⟨by omega, ?_, hI⟩⟩, fun z => ⟨hR, z1, fun z2 => ⟨by rw [(r6 z).1 z2], hI⟩, fun z2 => k_X8_beforeIt (v := cv μ 4) hR z1 ⟨_, rfl, ?_, hI⟩⟩, trivial⟩, fun q => absurd (by omega) q⟩
    · rw [r5 z, if_neg (by rw [← p8]; exact z2)]
    · rw [r5 z, p9]
    · rw [(r6 z).2 z2]; rfl
  have cr := cntI_rng (f := fun p => cWait (cv μ 4) p (μ 4 4) && cBef (cv μ 4) p x1 (cTurn (cv μ 4) (μ 4 4) 0)) (μ 4 1) v1.1
  have pick : ∀ {A : Prop}, (x2 < 0 ∨ 5 < x2 → A) → True := fun _ => trivial
  refine ⟨i2, fun z => ⟨_, rfl, by decide, ref ⟨i2, fun _ => rfl, ?_, ?_, ?_, ?_, ?_, ?_⟩⟩, fun z => ⟨q6, _, rfl, by omega, ref ⟨i2, ?_, fun _ => rfl, ?_, ?_, ?_, ?_, ?_⟩⟩, fun z => ⟨q6, _, rfl, by omega, ref ⟨i2, ?_, ?_, fun _ => rfl, ?_, ?_, ?_, ?_⟩⟩, fun z => ⟨q6, _, rfl, by omega, ref ⟨i2, ?_, ?_, ?_, fun _ => rfl, ?_, ?_, ?_⟩⟩, fun z => ⟨g4, q6, _, rfl, by omega, ref ⟨i2, ?_, ?_, ?_, ?_, fun _ => rfl, ?_, ?_⟩⟩, fun z => ⟨g4, q6, by omega, fun z2 => ⟨_, rfl, by decide, ref ⟨i2, ?_, ?_, ?_, ?_, ?_, fun _ => (if_neg z2).symm, ?_⟩⟩, fun z2 => ⟨_, rfl, by omega, ref ⟨i2, ?_, ?_, ?_, ?_, ?_, fun _ => (if_pos z2).symm, ?_⟩⟩⟩, fun z => ⟨g4, q6, by omega, fun z2 => ⟨_, rfl, by decide, ref ⟨i2, ?_, ?_, ?_, ?_, ?_, ?_, fun _ => ⟨fun _ => rfl, fun z3 => absurd (z2.symm.trans z3) (by decide)⟩⟩⟩, fun z2 => ⟨hRo, hR.2.1, z1, _, rfl, by omega, ref ⟨i2, ?_, ?_, ?_, ?_, ?_, ?_, fun _ => ⟨fun z3 => absurd (z3.symm.trans z2) (by decide), fun _ => rfl⟩⟩⟩⟩, trivial⟩
  all_goals exact fun q => absurd q (by omega)
/-! The letters that many wait with. -/
theorem bits_test {v : CV} {p l : Int} (hl : 0 ≤ l) : ∀ i, 0 ≤ i → i ≤ v 4 p → (∀ j, 0 ≤ j → j < v 4 p → 0 ≤ v 5 (p * 4 + j)) → (foldI (fun i a => a ||| 2 ^ (v 5 (p * 4 + i)).toNat) 0 i).testBit l.toNat = foldI (fun i (c : Bool) => c || decide (v 5 (p * 4 + i) = l)) false i := by
  intro i h0 h1 hr
  have key := up_ind (N := v 4 p) (P := fun q => q ≤ v 4 p → True) 0
  suffices hh : ∀ n : Nat, (n : Int) ≤ v 4 p → (foldI (fun i a => a ||| 2 ^ (v 5 (p * 4 + i)).toNat) 0 (n : Int)).testBit l.toNat = foldI (fun i (c : Bool) => c || decide (v 5 (p * 4 + i) = l)) false (n : Int) by
    have := hh i.toNat (by omega)
    rwa [Int.toNat_of_nonneg h0] at this
  intro n
  induction n with
  | zero => intro _; simp [foldI_0]
  | succ n ih =>
    intro hn
    rw [show ((n + 1 : Nat) : Int) = (n : Int) + 1 by omega, foldI_succ (by omega), foldI_succ (by omega), Nat.testBit_or, ih (by omega), Nat.testBit_two_pow]
    have := hr n (by omega) (by omega)
    congr 1
    by_cases e : v 5 (p * 4 + n) = l
    · rw [decide_eq_true e, decide_eq_true (by rw [e])]
    · rw [decide_eq_false e, decide_eq_false (by omega)]
theorem k_X8_passedBy {v : CV} {l : Int} (hR : Rel v (μ 89)) (hl : 0 ≤ l ∧ l < 8) (h : Q (some (.inl (cntI (fun p => cWait v p (v 0 4) && (cBits v p).testBit l.toNat) (v 0 1)))) μ) : Cl E 2 M_X8_passedBy [.inr 83, .inl l] μ Q := by
  have hn := hR.n
  have e2 := hR.a2
  refine s_X8_passedBy (v := v) ?_
  refine up_ind (N := v 0 1) (P := fun p => Gg E 2 M_X8_passedBy 4 [some (.inr 83), some (.inl l), some (.inl (cntI (fun p => cWait v p (v 0 4) && (cBits v p).testBit l.toNat) p)), some (.inl p), none, none] [] μ Q) 0 hn.1 ?_ (fun p h1 h2 ih => ?_)
  · exact s_X8_passedBy_4 (v := v) ⟨by omega, by omega, fun _ => h, fun z => absurd (show v 0 1 ≥ μ 89 2 by omega) z⟩
  · rw [cntI_succ h1] at ih
    have ok := hR.ok h1 h2
    have e3 := (hR.p h1 h2).2.2.2.1
    have e5 := (hR.p h1 h2).2.2.2.2.1
    have o4 := ok.2.1
    refine s_X8_passedBy_4 (v := v) ⟨by omega, by omega, fun z => absurd z (by omega), fun _ => ?_⟩
    obtain ⟨n, en⟩ : ∃ n, n = cntI (fun p => cWait v p (v 0 4) && (cBits v p).testBit l.toNat) p := ⟨_, rfl⟩
    rw [← en] at ih ⊢
    refine up_ind (N := v 4 p) (P := fun q => Gg E 2 M_X8_passedBy 20 [some (.inr 83), some (.inl l), some (.inl n), some (.inl p), some (.inl (bi (foldI (fun i (c : Bool) => c || decide (v 5 (p * 4 + i) = l)) false q))), some (.inl q)] [] μ Q) 0 (by omega) ?_ (fun q q0 q1 ih2 => ?_)
    · have bt := bits_test (v := v) (p := p) hl.1 (v 4 p) (by omega) (Int.le_refl _) (fun j j0 j1 => (ok.2.2.2.2 j j0 j1).1)
      replace bt : (cBits v p).testBit l.toNat = _ := bt
      rw [← bt]
      refine s_X8_passedBy_20 (v := v) ⟨by omega, by omega, by omega, fun _ => ⟨bi_inR _, fun z => ?_, fun z => ⟨hR, ⟨h1, h2⟩, fun z1 => ?_, fun z1 => ?_⟩⟩, fun z => absurd (show v 4 p ≥ μ 89 (13 + 13 * p + 3) by omega) z⟩
      · have : (cBits v p).testBit l.toNat = false := by cases e : (cBits v p).testBit l.toNat; rfl; rw [e] at z; exact absurd z (by decide)
        rwa [this, Bool.and_false] at ih
      · rwa [z1, Bool.false_and] at ih
      · have : (cBits v p).testBit l.toNat = true := by cases e : (cBits v p).testBit l.toNat; rw [e] at z; exact absurd rfl z; rfl
        rwa [z1, this, Bool.true_and] at ih
    · have e5q := e5 q q0 q1
      have o5 := ok.2.2.2.2 q q0 q1
      rw [foldI_succ q0] at ih2
      obtain ⟨c, ec⟩ : ∃ c, c = foldI (fun i (c : Bool) => c || decide (v 5 (p * 4 + i) = l)) false q := ⟨_, rfl⟩
      rw [← ec] at ih2 ⊢
      refine s_X8_passedBy_20 (v := v) ⟨by omega, by omega, by omega, fun z => absurd z (by omega), fun _ => ⟨bi_inR _, fun z => ?_, fun z => ⟨by omega, by omega, by omega, fun z2 => ?_, fun z2 => ?_⟩⟩⟩
      · cases c
        · exact absurd rfl z
        · exact ih2
      · cases c
        · rw [e5q] at z2
          rwa [decide_eq_false z2] at ih2
        · exact absurd z (by decide)
      · cases c
        · rw [e5q] at z2
          rwa [decide_eq_true z2] at ih2
        · exact absurd z (by decide)
theorem pr_frees (hI : Inv μ) (i1 : inR x1) : Pair E 3 M_X7_frees 3 M_X8_frees [.inl x1] μ := by
  have hR := hI.2.2.2.2.1.1
  have g4 := hI.2.2.2.2.2.2.2.1
  have a0 : μ 89 0 = μ 4 2 := hR.1.1
  obtain ⟨v0, v1, -⟩ := hR.2.1
  simp only [cv, Nat.add_zero] at v0 v1
  obtain ⟨f, ef⟩ : ∃ f : Int → Int, f = fun l => cntI (fun p => cWait (cv μ 4) p (μ 4 4) && (cBits (cv μ 4) p).testBit l.toNat) (μ 4 1) := ⟨_, rfl⟩
  have fr : ∀ l, 0 ≤ f l ∧ f l ≤ 6 := fun l => by
    have := cntI_rng (f := fun p => cWait (cv μ 4) p (μ 4 4) && (cBits (cv μ 4) p).testBit l.toNat) (μ 4 1) v1.1
    rw [ef]; show 0 ≤ cntI _ _ ∧ cntI _ _ ≤ 6; omega
  have fe : ∀ l, cntI (fun p => cWait (cv μ 4) p (μ 4 4) && (cBits (cv μ 4) p).testBit l.toNat) (μ 4 1) = f l := fun l => by rw [ef]
  refine s_X7_frees i1 ⟨by omega, fun z => ⟨fun z1 => ⟨g4, hR.2.1, by decide, ?_⟩, fun z1 => ⟨_, rfl, by decide, s_X8_frees i1 ⟨by omega, fun _ => ⟨fun q => absurd (by omega) z1, fun _ => ⟨rfl, hI⟩⟩, fun q => absurd (show 0 < μ 89 0 by omega) q⟩⟩⟩, fun z => ⟨_, rfl, by decide, s_X8_frees i1 ⟨by omega, fun q => absurd q (by omega), fun _ => ⟨rfl, hI⟩⟩⟩⟩
  rw [show cntI (fun p => cWait (cv μ 4) p (μ 4 4) && (cBits (cv μ 4) p).testBit (0 : Int).toNat) (μ 4 1) = f 0 from fe 0]
  obtain ⟨g, eg⟩ : ∃ g : Int → Int, g = fun n => foldI (fun k b => if f (k + 1) ≤ f b then b else k + 1) 0 (n - 1) := ⟨_, rfl⟩
  have g1 : g 1 = 0 := by rw [eg]; rfl
  have gs : ∀ k, 1 ≤ k → g (k + 1) = if f k ≤ f (g k) then g k else k := fun k hk => by
    rw [eg]
    show foldI _ 0 (k + 1 - 1) = if f k ≤ f (foldI _ 0 (k - 1)) then foldI _ 0 (k - 1) else k
    rw [show k + 1 - 1 = (k - 1) + 1 by omega, foldI_succ (by omega), show k - 1 + 1 = k by omega]
  have gr : ∀ n : Nat, n < 8 → 0 ≤ g ((n : Int) + 1) ∧ g ((n : Int) + 1) < 8 := by
    intro n
    induction n with
    | zero => intro _; rw [show ((0 : Nat) : Int) + 1 = 1 from rfl, g1]; decide
    | succ n ih =>
      intro hn
      have := ih (by omega)
      rw [show (((n + 1 : Nat)) : Int) = (n : Int) + 1 by omega, gs _ (by omega)]
      split <;> omega
  have gr' : ∀ k, 1 ≤ k → k ≤ 8 → 0 ≤ g k ∧ g k < 8 := fun k k1 k8 => by
    have := gr (k - 1).toNat (by omega)
    rwa [Int.toNat_of_nonneg (by omega), show k - 1 + 1 = k by omega] at this
  have start : f 0 = f (g 1) := by rw [g1]
  rw [start]
  have s2 : (0 : Int) = g 1 := g1.symm
  suffices hh : Gg E 3 M_X7_frees 38 [some (.inr 0), some (.inl x1), some (.inl (g 1)), some (.inl (f (g 1))), some (.inl 1), none] [] μ (fun v μ1 => ∃ r, v = some (.inl r) ∧ inR r ∧ Cl E 3 M_X8_frees [.inr 83, .inl x1] μ1 (fun w μ2 => w = some (.inl r) ∧ Inv μ2)) by rwa [g1] at hh ⊢
  refine up_ind (N := 8) (P := fun k => Gg E 3 M_X7_frees 38 [some (.inr 0), some (.inl x1), some (.inl (g k)), some (.inl (f (g k))), some (.inl k), none] [] μ (fun v μ1 => ∃ r, v = some (.inl r) ∧ inR r ∧ Cl E 3 M_X8_frees [.inr 83, .inl x1] μ1 (fun w μ2 => w = some (.inl r) ∧ Inv μ2))) 1 (by decide) ?_ (fun k k1 k8 ih => ?_)
  · have g8 := gr' 8 (by decide) (by decide)
    have f8 := fr (g 8)
    have rf : ∀ r, (x1 ≠ 0 → r = f (g 8)) → (x1 = 0 → r = g 8) → Cl E 3 M_X8_frees [.inr 83, .inl x1] μ (fun w μ2 => w = some (.inl r) ∧ Inv μ2) := by
      intro r r1 r2
      refine s_X8_frees i1 ⟨by omega, fun _ => ⟨fun _ => ?_, fun q => absurd (by omega) q⟩, fun q => absurd (show 0 < μ 89 0 by omega) q⟩
      suffices hh : Gg E 3 M_X8_frees 26 [some (.inr 83), some (.inl x1), some (.inl (g 1)), some (.inl 1)] [] μ (fun w μ2 => w = some (.inl r) ∧ Inv μ2) by rwa [g1] at hh
      refine up_ind (N := 8) (P := fun k => Gg E 3 M_X8_frees 26 [some (.inr 83), some (.inl x1), some (.inl (g k)), some (.inl k)] [] μ (fun w μ2 => w = some (.inl r) ∧ Inv μ2)) 1 (by decide) ?_ (fun k k1 k8 ih => ?_)
      · exact s_X8_frees_26 ⟨by decide, fun _ => ⟨i1, fun z => k_X8_passedBy (v := cv μ 4) hR g8 ⟨_, rfl, by rw [r1 z]; exact congrArg (fun x => some (Sum.inl x)) (fe (g 8)), hI⟩, fun z => ⟨by rw [r2 z], hI⟩⟩, fun z => absurd (by decide) z⟩
      · have gk := gr' k k1 (by omega)
        rw [gs k k1] at ih
        refine s_X8_frees_26 ⟨by omega, fun z => absurd z (by omega), fun _ => k_X8_passedBy (v := cv μ 4) hR (by omega) ⟨_, rfl, k_X8_passedBy (v := cv μ 4) hR gk ⟨_, rfl, ?_⟩⟩⟩
        replace fe : ∀ l, cntI (fun p => cWait (cv μ 4) p (cv μ 4 0 4) && (cBits (cv μ 4) p).testBit l.toNat) (cv μ 4 0 1) = f l := fe
        rw [fe, fe]
        have ra := fr k
        have rb := fr (g k)
        exact ⟨by omega, by omega, fun z => by rwa [if_pos z] at ih, fun z => by rwa [if_neg z] at ih⟩
    exact s_X7_frees_38 ⟨by decide, fun _ => ⟨i1, fun z => ⟨_, rfl, by omega, rf _ (fun _ => rfl) (fun q => absurd q z)⟩, fun z => ⟨_, rfl, by omega, rf _ (fun q => absurd z q) (fun _ => rfl)⟩⟩, fun z => absurd (by decide) z⟩
  · rw [gs k k1] at ih
    refine s_X7_frees_38 ⟨by omega, fun z => absurd z (by omega), fun _ => ⟨g4, hR.2.1, by omega, ?_⟩⟩
    rw [fe]
    have ra := fr k
    have rb := fr (g k)
    exact ⟨by omega, by omega, fun z => by rwa [if_pos z] at ih, fun z => by rwa [if_neg z] at ih⟩
end P56

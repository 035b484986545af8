/-! The pair of warden. -/
set_option maxRecDepth 20000 in
theorem s_X8_warden {E : Ex} {μ : Mem} {Q : Option Vl → Mem → Prop} {x1 : Int} {v : CV}  (h : inR (μ 89 0) ∧ ((0 < μ 89 0) → inR x1 ∧ (((-2) ≤ x1 ∧ x1 ≤ 5) → Gg E 7 M_X8_warden 27 [some (.inr 83), some (.inl x1), some (.inl 0), some (.inl 0), none, none, none, none] [] μ Q) ∧ (¬ ((-2) ≤ x1 ∧ x1 ≤ 5) → Q (some (.inl (-1000001))) μ)) ∧ (¬ (0 < μ 89 0) → Q (some (.inl (-1000002))) μ)) : Cl E 7 M_X8_warden [.inr 83, .inl x1] μ Q := by
  show Gg E 7 M_X8_warden 0 [some (.inr 83), some (.inl x1), none, none, none, none, none, none] [] μ Q
  refine r_aloadn (q := 1) DM_X8_warden_0 rfl rfl ?_
  have i1 := h.1
  replace h := h.2
  refine r_callVi [] (q := 4) DM_X8_warden_1 rfl kM_X8_isCourt lRX8_200 sh_83 rfl rfl (by decide) (Nat.le_of_ble_eq_true rfl) rfl (k_X8_isCourt i1 ⟨_, rfl, ?_⟩)
  refine r_bine (q := 7) (t := 10) DM_X8_warden_4 rfl (by decide) ⟨fun cc => ?_, fun cc => ?_⟩
  · replace h := h.1 cc
    refine r_iloadn (q := 11) DM_X8_warden_10 rfl rfl ?_
    refine r_bipush (q := 13) (n := (-2)) DM_X8_warden_11 rfl (by decide) ?_
    refine r_iconst (q := 14) (n := 5) DM_X8_warden_13 rfl ?_
    have i2 := h.1
    replace h := h.2
    refine r_callSi [.inl x1, .inl (-2), .inl 5] (q := 17) DM_X8_warden_14 rfl kM_X8_in lRX8_65 rfl (by decide) (Nat.le_of_ble_eq_true rfl) rfl (k_X8_in i2 (by decide) (by decide) ⟨_, rfl, ?_⟩)
    refine r_bine (q := 20) (t := 23) DM_X8_warden_17 rfl (by decide) ⟨fun cc => ?_, fun cc => ?_⟩
    · replace h := h.1 cc
      refine r_iconst (q := 24) (n := 0) DM_X8_warden_23 rfl ?_
      refine v_istoren (q := 25) (ls' := [some (.inr 83), some (.inl x1), some (.inl 0), none, none, none, none, none]) DM_X8_warden_24 rfl (by decide) rfl ?_
      refine r_iconst (q := 26) (n := 0) DM_X8_warden_25 rfl ?_
      refine v_istoren (q := 27) (ls' := [some (.inr 83), some (.inl x1), some (.inl 0), some (.inl 0), none, none, none, none]) DM_X8_warden_26 rfl (by decide) rfl ?_
      exact h
    · replace h := h.2 cc
      refine r_ldc (q := 22) (n := (-1000001)) DM_X8_warden_20 rfl nRX8_73 ?_
      exact r_ret (v := some (.inl (-1000001))) ⟨DM_X8_warden_22, Or.inl rfl⟩ h
  · replace h := h.2 cc
    refine r_ldc (q := 9) (n := (-1000002)) DM_X8_warden_7 rfl nRX8_203 ?_
    exact r_ret (v := some (.inl (-1000002))) ⟨DM_X8_warden_9, Or.inl rfl⟩ h
set_option maxRecDepth 20000 in
theorem s_X8_warden_27 {E : Ex} {μ : Mem} {Q : Option Vl → Mem → Prop} {x1 x2 x3 : Int} {v : CV}  (h : inR x3 ∧ inR (μ 89 2) ∧ (x3 ≥ (μ 89 2) → Gg E 7 M_X8_warden 70 [some (.inr 83), some (.inl x1), some (.inl x2), some (.inl (-1000000)), some (.inl 0), none, none, none] [] μ Q) ∧ (¬ x3 ≥ (μ 89 2) → (Rel v (μ 89)) ∧ (0 ≤ x3 ∧ x3 < v 0 1) ∧ ((cWait v x3 (v 0 4)) = false → Gg E 7 M_X8_warden 27 [some (.inr 83), some (.inl x1), some (.inl x2), some (.inl (x3 + 1)), none, none, none, none] [] μ Q) ∧ ((cWait v x3 (v 0 4)) = true → (0 ≤ x2 ∧ x2 < 6) ∧ ∀ μ5 : Mem, μ5 = up μ 97 x2 x3 → Gg E 7 M_X8_warden 27 [some (.inr 83), some (.inl x1), some (.inl (x2 + 1)), some (.inl (x3 + 1)), none, none, none, none] [] μ5 Q))) : Gg E 7 M_X8_warden 27 [some (.inr 83), some (.inl x1), some (.inl x2), some (.inl x3), none, none, none, none] [] μ Q := by
  refine r_iloadn (q := 28) DM_X8_warden_27 rfl rfl ?_
  refine r_aloadn (q := 29) DM_X8_warden_28 rfl rfl ?_
  refine r_getR (q := 32) (r := 89) DM_X8_warden_29 rfl fRX8_25 sh_83 rfl ?_
  refine r_iconst (q := 33) (n := 2) DM_X8_warden_32 rfl ?_
  refine r_iald (q := 34) DM_X8_warden_33 rfl sh_89 (by decide) ⟨by decide, ?_⟩
  have i1 := h.1
  replace h := h.2
  have i2 := h.1
  replace h := h.2
  refine r_icge (q := 37) (t := 64) DM_X8_warden_34 rfl (by decide) ⟨⟨i1, i2⟩, fun cc => ?_, fun cc => ?_⟩
  · replace h := h.1 cc
    refine r_ldc (q := 66) (n := (-1000000)) DM_X8_warden_64 rfl nRX8_59 ?_
    refine v_istoren (q := 67) (ls' := [some (.inr 83), some (.inl x1), some (.inl x2), some (.inl (-1000000)), none, none, none, none]) DM_X8_warden_66 rfl (by decide) rfl ?_
    refine r_iconst (q := 68) (n := 0) DM_X8_warden_67 rfl ?_
    refine v_istore (q := 70) (ls' := [some (.inr 83), some (.inl x1), some (.inl x2), some (.inl (-1000000)), some (.inl 0), none, none, none]) DM_X8_warden_68 rfl (by decide) rfl ?_
    exact h
  · replace h := h.2 cc
    refine r_aloadn (q := 38) DM_X8_warden_37 rfl rfl ?_
    refine r_getR (q := 41) (r := 89) DM_X8_warden_38 rfl fRX8_25 sh_83 rfl ?_
    refine r_iloadn (q := 42) DM_X8_warden_41 rfl rfl ?_
    have i3 := h.1
    replace h := h.2
    have i4 := h.1
    replace h := h.2
    refine r_callSi [.inr 89, .inl x3] (q := 45) DM_X8_warden_42 rfl kM_X8_waits lRX8_172 rfl (by decide) (Nat.le_of_ble_eq_true rfl) rfl (k_X8_waits sh_89 i3 i4 ⟨_, rfl, ?_⟩)
    refine r_bbeq (q := 48) (t := 58) DM_X8_warden_45 rfl (by decide) ⟨fun cc => ?_, fun cc => ?_⟩
    · replace h := h.1 cc
      refine v_iinc (q := 61) (ls' := [some (.inr 83), some (.inl x1), some (.inl x2), some (.inl (x3 + 1)), none, none, none, none]) DM_X8_warden_58 rfl rfl (by decide) rfl ?_
      refine r_goto (q := 27) DM_X8_warden_61 (by decide) ?_
      exact h
    · replace h := h.2 cc
      refine r_aloadn (q := 49) DM_X8_warden_48 rfl rfl ?_
      refine r_getR (q := 52) (r := 97) DM_X8_warden_49 rfl fRX8_50 sh_83 rfl ?_
      refine r_iloadn (q := 53) DM_X8_warden_52 rfl rfl ?_
      refine r_iloadn (q := 54) DM_X8_warden_53 rfl rfl ?_
      refine v_iast (q := 55) DM_X8_warden_54 rfl sh_97 (by decide) ⟨h.1, fun μ5 e5 => ?_⟩
      have i6 := h.1
      replace h := h.2 μ5 e5
      refine v_iinc (q := 58) (ls' := [some (.inr 83), some (.inl x1), some (.inl (x2 + 1)), some (.inl x3), none, none, none, none]) DM_X8_warden_55 rfl rfl (by decide) rfl ?_
      refine v_iinc (q := 61) (ls' := [some (.inr 83), some (.inl x1), some (.inl (x2 + 1)), some (.inl (x3 + 1)), none, none, none, none]) DM_X8_warden_58 rfl rfl (by decide) rfl ?_
      refine r_goto (q := 27) DM_X8_warden_61 (by decide) ?_
      exact h
set_option maxRecDepth 20000 in
theorem s_X8_warden_70 {E : Ex} {μ : Mem} {Q : Option Vl → Mem → Prop} {x1 x2 x3 x4 : Int} {v : CV}  (h : Cl E 0 M_X8_power [.inl x2, .inl x2] μ (fun vv μ1 => ∃ v2, vv = some (.inl v2) ∧ inR x4 ∧ inR v2 ∧ (x4 ≥ v2 → inR x1 ∧ (x1 < 0 → (x1 ≠ (-1) → Cl E 6 M_X8_waited [.inr 83] μ1 (fun vv μ6 => ∃ v7, vv = some (.inl v7) ∧ Q (some (.inl (v7 - x3))) μ6)) ∧ (x1 = (-1) → Q (some (.inl x3)) μ1)) ∧ (¬ x1 < 0 → inR x2 ∧ (x1 ≥ x2 → Q (some (.inl (-1000000))) μ1) ∧ (¬ x1 ≥ x2 → (0 ≤ x1 ∧ x1 < 6) ∧ Q (some (.inl (μ1 99 x1))) μ1))) ∧ (¬ x4 ≥ v2 → Cl E 0 M_X8_lines [.inr 83, .inl x4, .inl x2] μ1 (fun vv μ10 => ∃ v11, vv = some (.inl (bi v11)) ∧ (v11 = false → Gg E 7 M_X8_warden 70 [some (.inr 83), some (.inl x1), some (.inl x2), some (.inl x3), some (.inl (x4 + 1)), none, none, none] [] μ10 Q) ∧ (v11 = true → Cl E 2 M_X8_waitedByLine [.inr 83, .inl x2] μ10 (fun vv μ12 => ∃ v13, vv = some (.inl v13) ∧ inR x3 ∧ (x3 = (-1000000) → Gg E 7 M_X8_warden 119 [some (.inr 83), some (.inl x1), some (.inl x2), some (.inl x3), some (.inl x4), some (.inl v13), some (.inl 1), some (.inl 0)] [] μ12 Q) ∧ (¬ x3 = (-1000000) → inR v13 ∧ (v13 ≥ x3 → Gg E 7 M_X8_warden 119 [some (.inr 83), some (.inl x1), some (.inl x2), some (.inl x3), some (.inl x4), some (.inl v13), some (.inl 0), some (.inl 0)] [] μ12 Q) ∧ (¬ v13 ≥ x3 → Gg E 7 M_X8_warden 119 [some (.inr 83), some (.inl x1), some (.inl x2), some (.inl x3), some (.inl x4), some (.inl v13), some (.inl 1), some (.inl 0)] [] μ12 Q)))))))) : Gg E 7 M_X8_warden 70 [some (.inr 83), some (.inl x1), some (.inl x2), some (.inl x3), some (.inl x4), none, none, none] [] μ Q := by
  refine r_iload (q := 72) DM_X8_warden_70 rfl rfl ?_
  refine r_iloadn (q := 73) DM_X8_warden_72 rfl rfl ?_
  refine r_iloadn (q := 74) DM_X8_warden_73 rfl rfl ?_
  refine r_callSi [.inl x2, .inl x2] (q := 77) DM_X8_warden_74 rfl kM_X8_power lRX8_227 rfl (by decide) (Nat.le_of_ble_eq_true rfl) rfl (Cl.imp h (fun vv μ1 h => ?_))
  obtain ⟨v2, hv, h⟩ := h
  refine ⟨v2, hv, ?_⟩
  have i3 := h.1
  replace h := h.2
  have i4 := h.1
  replace h := h.2
  refine r_icge (q := 80) (t := 168) DM_X8_warden_77 rfl (by decide) ⟨⟨i3, i4⟩, fun cc => ?_, fun cc => ?_⟩
  · replace h := h.1 cc
    refine r_iloadn (q := 169) DM_X8_warden_168 rfl rfl ?_
    have i5 := h.1
    replace h := h.2
    refine r_iflt (q := 172) (t := 191) DM_X8_warden_169 rfl (by decide) ⟨i5, fun cc => ?_, fun cc => ?_⟩
    · replace h := h.1 cc
      refine r_iloadn (q := 192) DM_X8_warden_191 rfl rfl ?_
      refine r_iconst (q := 193) (n := (-1)) DM_X8_warden_192 rfl ?_
      refine r_icne (q := 196) (t := 200) DM_X8_warden_193 rfl (by decide) ⟨⟨i5, (by decide)⟩, fun cc => ?_, fun cc => ?_⟩
      · replace h := h.1 cc
        refine r_aloadn (q := 201) DM_X8_warden_200 rfl rfl ?_
        refine r_callVi [] (q := 204) DM_X8_warden_201 rfl kM_X8_waited lRX8_242 sh_83 rfl rfl (by decide) (Nat.le_of_ble_eq_true rfl) rfl (Cl.imp h (fun vv μ6 h => ?_))
        obtain ⟨v7, hv, h⟩ := h
        refine ⟨v7, hv, ?_⟩
        refine r_iloadn (q := 205) DM_X8_warden_204 rfl rfl ?_
        refine r_isub (q := 206) DM_X8_warden_205 rfl ?_
        exact r_ret (v := some (.inl (v7 - x3))) ⟨DM_X8_warden_206, Or.inl rfl⟩ h
      · replace h := h.2 cc
        refine r_iloadn (q := 197) DM_X8_warden_196 rfl rfl ?_
        refine r_goto (q := 206) DM_X8_warden_197 (by decide) ?_
        exact r_ret (v := some (.inl x3)) ⟨DM_X8_warden_206, Or.inl rfl⟩ h
    · replace h := h.2 cc
      refine r_iloadn (q := 173) DM_X8_warden_172 rfl rfl ?_
      refine r_iloadn (q := 174) DM_X8_warden_173 rfl rfl ?_
      have i8 := h.1
      replace h := h.2
      refine r_icge (q := 177) (t := 186) DM_X8_warden_174 rfl (by decide) ⟨⟨i5, i8⟩, fun cc => ?_, fun cc => ?_⟩
      · replace h := h.1 cc
        refine r_ldc (q := 188) (n := (-1000000)) DM_X8_warden_186 rfl nRX8_59 ?_
        refine r_goto (q := 206) DM_X8_warden_188 (by decide) ?_
        exact r_ret (v := some (.inl (-1000000))) ⟨DM_X8_warden_206, Or.inl rfl⟩ h
      · replace h := h.2 cc
        refine r_aloadn (q := 178) DM_X8_warden_177 rfl rfl ?_
        refine r_getR (q := 181) (r := 99) DM_X8_warden_178 rfl fRX8_56 sh_83 rfl ?_
        refine r_iloadn (q := 182) DM_X8_warden_181 rfl rfl ?_
        refine r_iald (q := 183) DM_X8_warden_182 rfl sh_99 (by decide) ⟨h.1, ?_⟩
        have i9 := h.1
        replace h := h.2
        refine r_goto (q := 206) DM_X8_warden_183 (by decide) ?_
        exact r_ret (v := some (.inl (μ1 99 x1))) ⟨DM_X8_warden_206, Or.inl rfl⟩ h
  · replace h := h.2 cc
    refine r_aloadn (q := 81) DM_X8_warden_80 rfl rfl ?_
    refine r_iload (q := 83) DM_X8_warden_81 rfl rfl ?_
    refine r_iloadn (q := 84) DM_X8_warden_83 rfl rfl ?_
    refine r_callVi [.inl x4, .inl x2] (q := 87) DM_X8_warden_84 rfl kM_X8_lines lRX8_236 sh_83 rfl rfl (by decide) (Nat.le_of_ble_eq_true rfl) rfl (Cl.imp h (fun vv μ10 h => ?_))
    obtain ⟨v11, hv, h⟩ := h
    refine ⟨_, hv, ?_⟩
    refine r_bbeq (q := 90) (t := 162) DM_X8_warden_87 rfl (by decide) ⟨fun cc => ?_, fun cc => ?_⟩
    · replace h := h.1 cc
      refine v_iinc (q := 165) (ls' := [some (.inr 83), some (.inl x1), some (.inl x2), some (.inl x3), some (.inl (x4 + 1)), none, none, none]) DM_X8_warden_162 rfl rfl (by decide) rfl ?_
      refine r_goto (q := 70) DM_X8_warden_165 (by decide) ?_
      exact h
    · replace h := h.2 cc
      refine r_aloadn (q := 91) DM_X8_warden_90 rfl rfl ?_
      refine r_iloadn (q := 92) DM_X8_warden_91 rfl rfl ?_
      refine r_callVi [.inl x2] (q := 95) DM_X8_warden_92 rfl kM_X8_waitedByLine lRX8_239 sh_83 rfl rfl (by decide) (Nat.le_of_ble_eq_true rfl) rfl (Cl.imp h (fun vv μ12 h => ?_))
      obtain ⟨v13, hv, h⟩ := h
      refine ⟨v13, hv, ?_⟩
      refine v_istore (q := 97) (ls' := [some (.inr 83), some (.inl x1), some (.inl x2), some (.inl x3), some (.inl x4), some (.inl v13), none, none]) DM_X8_warden_95 rfl (by decide) rfl ?_
      refine r_iloadn (q := 98) DM_X8_warden_97 rfl rfl ?_
      refine r_ldc (q := 100) (n := (-1000000)) DM_X8_warden_98 rfl nRX8_59 ?_
      have i14 := h.1
      replace h := h.2
      refine r_iceq (q := 103) (t := 109) DM_X8_warden_100 rfl (by decide) ⟨⟨i14, (by decide)⟩, fun cc => ?_, fun cc => ?_⟩
      · replace h := h.1 cc
        refine r_iconst (q := 110) (n := 1) DM_X8_warden_109 rfl ?_
        refine r_goto (q := 114) DM_X8_warden_110 (by decide) ?_
        refine v_istore (q := 116) (ls' := [some (.inr 83), some (.inl x1), some (.inl x2), some (.inl x3), some (.inl x4), some (.inl v13), some (.inl 1), none]) DM_X8_warden_114 rfl (by decide) rfl ?_
        refine r_iconst (q := 117) (n := 0) DM_X8_warden_116 rfl ?_
        refine v_istore (q := 119) (ls' := [some (.inr 83), some (.inl x1), some (.inl x2), some (.inl x3), some (.inl x4), some (.inl v13), some (.inl 1), some (.inl 0)]) DM_X8_warden_117 rfl (by decide) rfl ?_
        exact h
      · replace h := h.2 cc
        refine r_iload (q := 105) DM_X8_warden_103 rfl rfl ?_
        refine r_iloadn (q := 106) DM_X8_warden_105 rfl rfl ?_
        have i15 := h.1
        replace h := h.2
        refine r_icge (q := 109) (t := 113) DM_X8_warden_106 rfl (by decide) ⟨⟨i15, i14⟩, fun cc => ?_, fun cc => ?_⟩
        · replace h := h.1 cc
          refine r_iconst (q := 114) (n := 0) DM_X8_warden_113 rfl ?_
          refine v_istore (q := 116) (ls' := [some (.inr 83), some (.inl x1), some (.inl x2), some (.inl x3), some (.inl x4), some (.inl v13), some (.inl 0), none]) DM_X8_warden_114 rfl (by decide) rfl ?_
          refine r_iconst (q := 117) (n := 0) DM_X8_warden_116 rfl ?_
          refine v_istore (q := 119) (ls' := [some (.inr 83), some (.inl x1), some (.inl x2), some (.inl x3), some (.inl x4), some (.inl v13), some (.inl 0), some (.inl 0)]) DM_X8_warden_117 rfl (by decide) rfl ?_
          exact h
        · replace h := h.2 cc
          refine r_iconst (q := 110) (n := 1) DM_X8_warden_109 rfl ?_
          refine r_goto (q := 114) DM_X8_warden_110 (by decide) ?_
          refine v_istore (q := 116) (ls' := [some (.inr 83), some (.inl x1), some (.inl x2), some (.inl x3), some (.inl x4), some (.inl v13), some (.inl 1), none]) DM_X8_warden_114 rfl (by decide) rfl ?_
          refine r_iconst (q := 117) (n := 0) DM_X8_warden_116 rfl ?_
          refine v_istore (q := 119) (ls' := [some (.inr 83), some (.inl x1), some (.inl x2), some (.inl x3), some (.inl x4), some (.inl v13), some (.inl 1), some (.inl 0)]) DM_X8_warden_117 rfl (by decide) rfl ?_
          exact h
set_option maxRecDepth 20000 in
theorem s_X8_warden_119 {E : Ex} {μ : Mem} {Q : Option Vl → Mem → Prop} {x1 x2 x3 x4 x5 x6 x7 : Int} {v : CV}  (h : inR x7 ∧ inR x2 ∧ (x7 ≥ x2 → inR x6 ∧ (x6 = 0 → Gg E 7 M_X8_warden 70 [some (.inr 83), some (.inl x1), some (.inl x2), some (.inl x3), some (.inl (x4 + 1)), none, none, none] [] μ Q) ∧ (¬ x6 = 0 → Gg E 7 M_X8_warden 70 [some (.inr 83), some (.inl x1), some (.inl x2), some (.inl x5), some (.inl (x4 + 1)), none, none, none] [] μ Q)) ∧ (¬ x7 ≥ x2 → inR x6 ∧ (x6 = 0 → (x6 = 0 → Gg E 7 M_X8_warden 70 [some (.inr 83), some (.inl x1), some (.inl x2), some (.inl x3), some (.inl (x4 + 1)), none, none, none] [] μ Q) ∧ (¬ x6 = 0 → Gg E 7 M_X8_warden 70 [some (.inr 83), some (.inl x1), some (.inl x2), some (.inl x5), some (.inl (x4 + 1)), none, none, none] [] μ Q)) ∧ (¬ x6 = 0 → (0 ≤ x7 ∧ x7 < 6) ∧ ∀ μ6 : Mem, μ6 = up μ 99 x7 (μ 98 x7) → Gg E 7 M_X8_warden 119 [some (.inr 83), some (.inl x1), some (.inl x2), some (.inl x3), some (.inl x4), some (.inl x5), some (.inl x6), some (.inl (x7 + 1))] [] μ6 Q))) : Gg E 7 M_X8_warden 119 [some (.inr 83), some (.inl x1), some (.inl x2), some (.inl x3), some (.inl x4), some (.inl x5), some (.inl x6), some (.inl x7)] [] μ Q := by
  refine r_iload (q := 121) DM_X8_warden_119 rfl rfl ?_
  refine r_iloadn (q := 122) DM_X8_warden_121 rfl rfl ?_
  have i1 := h.1
  replace h := h.2
  have i2 := h.1
  replace h := h.2
  refine r_icge (q := 125) (t := 150) DM_X8_warden_122 rfl (by decide) ⟨⟨i1, i2⟩, fun cc => ?_, fun cc => ?_⟩
  · replace h := h.1 cc
    refine r_iload (q := 152) DM_X8_warden_150 rfl rfl ?_
    have i3 := h.1
    replace h := h.2
    refine r_ifeq (q := 155) (t := 160) DM_X8_warden_152 rfl (by decide) ⟨i3, fun cc => ?_, fun cc => ?_⟩
    · replace h := h.1 cc
      refine r_iloadn (q := 161) DM_X8_warden_160 rfl rfl ?_
      refine v_istoren (q := 162) (ls' := [some (.inr 83), some (.inl x1), some (.inl x2), some (.inl x3), some (.inl x4), some (.inl x5), some (.inl x6), some (.inl x7)]) DM_X8_warden_161 rfl (by decide) rfl ?_
      refine v_iinc (q := 165) (ls' := [some (.inr 83), some (.inl x1), some (.inl x2), some (.inl x3), some (.inl (x4 + 1)), some (.inl x5), some (.inl x6), some (.inl x7)]) DM_X8_warden_162 rfl rfl (by decide) rfl ?_
      refine r_goto (q := 70) DM_X8_warden_165 (by decide) ?_
      exact Gg.weak [true, true, true, true, true, false, false, false] h
    · replace h := h.2 cc
      refine r_iload (q := 157) DM_X8_warden_155 rfl rfl ?_
      refine r_goto (q := 161) DM_X8_warden_157 (by decide) ?_
      refine v_istoren (q := 162) (ls' := [some (.inr 83), some (.inl x1), some (.inl x2), some (.inl x5), some (.inl x4), some (.inl x5), some (.inl x6), some (.inl x7)]) DM_X8_warden_161 rfl (by decide) rfl ?_
      refine v_iinc (q := 165) (ls' := [some (.inr 83), some (.inl x1), some (.inl x2), some (.inl x5), some (.inl (x4 + 1)), some (.inl x5), some (.inl x6), some (.inl x7)]) DM_X8_warden_162 rfl rfl (by decide) rfl ?_
      refine r_goto (q := 70) DM_X8_warden_165 (by decide) ?_
      exact Gg.weak [true, true, true, true, true, false, false, false] h
  · replace h := h.2 cc
    refine r_iload (q := 127) DM_X8_warden_125 rfl rfl ?_
    have i4 := h.1
    replace h := h.2
    refine r_ifeq (q := 130) (t := 150) DM_X8_warden_127 rfl (by decide) ⟨i4, fun cc => ?_, fun cc => ?_⟩
    · replace h := h.1 cc
      refine r_iload (q := 152) DM_X8_warden_150 rfl rfl ?_
      refine r_ifeq (q := 155) (t := 160) DM_X8_warden_152 rfl (by decide) ⟨i4, fun cc => ?_, fun cc => ?_⟩
      · replace h := h.1 cc
        refine r_iloadn (q := 161) DM_X8_warden_160 rfl rfl ?_
        refine v_istoren (q := 162) (ls' := [some (.inr 83), some (.inl x1), some (.inl x2), some (.inl x3), some (.inl x4), some (.inl x5), some (.inl x6), some (.inl x7)]) DM_X8_warden_161 rfl (by decide) rfl ?_
        refine v_iinc (q := 165) (ls' := [some (.inr 83), some (.inl x1), some (.inl x2), some (.inl x3), some (.inl (x4 + 1)), some (.inl x5), some (.inl x6), some (.inl x7)]) DM_X8_warden_162 rfl rfl (by decide) rfl ?_
        refine r_goto (q := 70) DM_X8_warden_165 (by decide) ?_
        exact Gg.weak [true, true, true, true, true, false, false, false] h
      · replace h := h.2 cc
        refine r_iload (q := 157) DM_X8_warden_155 rfl rfl ?_
        refine r_goto (q := 161) DM_X8_warden_157 (by decide) ?_
        refine v_istoren (q := 162) (ls' := [some (.inr 83), some (.inl x1), some (.inl x2), some (.inl x5), some (.inl x4), some (.inl x5), some (.inl x6), some (.inl x7)]) DM_X8_warden_161 rfl (by decide) rfl ?_
        refine v_iinc (q := 165) (ls' := [some (.inr 83), some (.inl x1), some (.inl x2), some (.inl x5), some (.inl (x4 + 1)), some (.inl x5), some (.inl x6), some (.inl x7)]) DM_X8_warden_162 rfl rfl (by decide) rfl ?_
        refine r_goto (q := 70) DM_X8_warden_165 (by decide) ?_
        exact Gg.weak [true, true, true, true, true, false, false, false] h
    · replace h := h.2 cc
      refine r_aloadn (q := 131) DM_X8_warden_130 rfl rfl ?_
      refine r_getR (q := 134) (r := 99) DM_X8_warden_131 rfl fRX8_56 sh_83 rfl ?_
      refine r_iload (q := 136) DM_X8_warden_134 rfl rfl ?_
      refine r_aloadn (q := 137) DM_X8_warden_136 rfl rfl ?_
      refine r_getR (q := 140) (r := 98) DM_X8_warden_137 rfl fRX8_53 sh_83 rfl ?_
      refine r_iload (q := 142) DM_X8_warden_140 rfl rfl ?_
      refine r_iald (q := 143) DM_X8_warden_142 rfl sh_98 (by decide) ⟨h.1, ?_⟩
      have i5 := h.1
      replace h := h.2
      refine v_iast (q := 144) DM_X8_warden_143 rfl sh_99 (by decide) ⟨i5, fun μ6 e6 => ?_⟩
      replace h := h μ6 e6
      refine v_iinc (q := 147) (ls' := [some (.inr 83), some (.inl x1), some (.inl x2), some (.inl x3), some (.inl x4), some (.inl x5), some (.inl x6), some (.inl (x7 + 1))]) DM_X8_warden_144 rfl rfl (by decide) rfl ?_
      refine r_goto (q := 119) DM_X8_warden_147 (by decide) ?_
      exact h
set_option maxRecDepth 20000 in
theorem s_X7_warden {E : Ex} {μ : Mem} {Q : Option Vl → Mem → Prop} {x1 : Int}  (h : inR (μ 4 0) ∧ ((μ 4 0) ≠ 0 → inR x1 ∧ (x1 < (-2) → Q (some (.inl (-1000001))) μ) ∧ (¬ x1 < (-2) → (x1 < 6 → Cl E 21 M_X3_plan [.inr 41, .inr 4] μ (fun vv μ3 => vv = none ∧ (x1 < 0 → (x1 ≠ (-1) → Cl E 5 M_X7_foretell [.inr 0, .inl 0] μ3 (fun vv μ5 => vv = some (.inr 14) ∧ (RgC μ5 14) ∧ (0 ≤ μ5 14 1 ∧ μ5 14 1 ≤ 6) ∧ Q (some (.inl ((cSum (cv μ5 14)) - (μ5 41 2)))) μ5)) ∧ (x1 = (-1) → Q (some (.inl (μ3 41 2))) μ3)) ∧ (¬ x1 < 0 → inR (μ3 41 1) ∧ (x1 ≥ (μ3 41 1) → Q (some (.inl (-1000000))) μ3) ∧ (¬ x1 ≥ (μ3 41 1) → (0 ≤ x1 ∧ x1 < 6) ∧ Q (some (.inl (μ3 42 x1))) μ3)))) ∧ (¬ x1 < 6 → Q (some (.inl (-1000001))) μ))) ∧ ((μ 4 0) = 0 → Q (some (.inl (-1000002))) μ)) : Cl E 22 M_X7_warden [.inr 0, .inl x1] μ Q := by
  show Gg E 22 M_X7_warden 0 [some (.inr 0), some (.inl x1)] [] μ Q
  refine r_aloadn (q := 1) DM_X7_warden_0 rfl rfl ?_
  refine r_getR (q := 4) (r := 4) DM_X7_warden_1 rfl fRX7_25 sh_0 rfl ?_
  refine v_getI (q := 7) (ji := 0) DM_X7_warden_4 rfl fRX7_140 (co0 cK_4) rfl rfl ?_
  have i1 := h.1
  replace h := h.2
  refine r_ifne (q := 10) (t := 13) DM_X7_warden_7 rfl (by decide) ⟨i1, fun cc => ?_, fun cc => ?_⟩
  · replace h := h.1 cc
    refine r_iloadn (q := 14) DM_X7_warden_13 rfl rfl ?_
    refine r_bipush (q := 16) (n := (-2)) DM_X7_warden_14 rfl (by decide) ?_
    have i2 := h.1
    replace h := h.2
    refine r_iclt (q := 19) (t := 25) DM_X7_warden_16 rfl (by decide) ⟨⟨i2, (by decide)⟩, fun cc => ?_, fun cc => ?_⟩
    · replace h := h.1 cc
      refine r_ldc (q := 27) (n := (-1000001)) DM_X7_warden_25 rfl nRX7_69 ?_
      exact r_ret (v := some (.inl (-1000001))) ⟨DM_X7_warden_27, Or.inl rfl⟩ h
    · replace h := h.2 cc
      refine r_iloadn (q := 20) DM_X7_warden_19 rfl rfl ?_
      refine r_bipush (q := 22) (n := 6) DM_X7_warden_20 rfl (by decide) ?_
      refine r_iclt (q := 25) (t := 28) DM_X7_warden_22 rfl (by decide) ⟨⟨i2, (by decide)⟩, fun cc => ?_, fun cc => ?_⟩
      · replace h := h.1 cc
        refine r_aloadn (q := 29) DM_X7_warden_28 rfl rfl ?_
        refine r_getR (q := 32) (r := 41) DM_X7_warden_29 rfl fRX7_53 sh_0 rfl ?_
        refine r_aloadn (q := 33) DM_X7_warden_32 rfl rfl ?_
        refine r_getR (q := 36) (r := 4) DM_X7_warden_33 rfl fRX7_25 sh_0 rfl ?_
        refine r_callVv [.inr 4] (q := 39) DM_X7_warden_36 rfl kM_X3_plan lRX7_237 sh_41 rfl rfl (by decide) (Nat.le_of_ble_eq_true rfl) rfl (Cl.imp h (fun vv μ3 h => ?_))
        obtain ⟨hv, h⟩ := h
        refine ⟨hv, ?_⟩
        refine r_iloadn (q := 40) DM_X7_warden_39 rfl rfl ?_
        refine r_iflt (q := 43) (t := 69) DM_X7_warden_40 rfl (by decide) ⟨i2, fun cc => ?_, fun cc => ?_⟩
        · replace h := h.1 cc
          refine r_iloadn (q := 70) DM_X7_warden_69 rfl rfl ?_
          refine r_iconst (q := 71) (n := (-1)) DM_X7_warden_70 rfl ?_
          refine r_icne (q := 74) (t := 84) DM_X7_warden_71 rfl (by decide) ⟨⟨i2, (by decide)⟩, fun cc => ?_, fun cc => ?_⟩
          · replace h := h.1 cc
            refine r_aloadn (q := 85) DM_X7_warden_84 rfl rfl ?_
            refine r_iconst (q := 86) (n := 0) DM_X7_warden_85 rfl ?_
            refine r_callVr [.inl 0] (q := 89) DM_X7_warden_86 rfl kM_X7_foretell lRX7_216 sh_0 rfl rfl (by decide) (Nat.le_of_ble_eq_true rfl) rfl (Cl.imp h (fun vv μ5 h => ?_))
            obtain ⟨hv, h⟩ := h
            refine ⟨14, hv, ?_⟩
            have i7 := h.1
            replace h := h.2
            have i8 := h.1
            replace h := h.2
            refine r_callVi [] (q := 92) DM_X7_warden_89 rfl kM_X2_waitedByAll lRX7_226 (co0 cK_14) rfl rfl (by decide) (Nat.le_of_ble_eq_true rfl) rfl (k_X2_waitedByAll cK_14 i7 i8 ⟨_, rfl, ?_⟩)
            refine r_aloadn (q := 93) DM_X7_warden_92 rfl rfl ?_
            refine r_getR (q := 96) (r := 41) DM_X7_warden_93 rfl fRX7_53 sh_0 rfl ?_
            refine v_getI (q := 99) (ji := 2) DM_X7_warden_96 rfl fRX7_244 sh_41 rfl rfl ?_
            refine r_isub (q := 100) DM_X7_warden_99 rfl ?_
            exact r_ret (v := some (.inl ((cSum (cv μ5 14)) - (μ5 41 2)))) ⟨DM_X7_warden_100, Or.inl rfl⟩ h
          · replace h := h.2 cc
            refine r_aloadn (q := 75) DM_X7_warden_74 rfl rfl ?_
            refine r_getR (q := 78) (r := 41) DM_X7_warden_75 rfl fRX7_53 sh_0 rfl ?_
            refine v_getI (q := 81) (ji := 2) DM_X7_warden_78 rfl fRX7_244 sh_41 rfl rfl ?_
            refine r_goto (q := 100) DM_X7_warden_81 (by decide) ?_
            exact r_ret (v := some (.inl (μ3 41 2))) ⟨DM_X7_warden_100, Or.inl rfl⟩ h
        · replace h := h.2 cc
          refine r_iloadn (q := 44) DM_X7_warden_43 rfl rfl ?_
          refine r_aloadn (q := 45) DM_X7_warden_44 rfl rfl ?_
          refine r_getR (q := 48) (r := 41) DM_X7_warden_45 rfl fRX7_53 sh_0 rfl ?_
          refine v_getI (q := 51) (ji := 1) DM_X7_warden_48 rfl fRX7_240 sh_41 rfl rfl ?_
          have i9 := h.1
          replace h := h.2
          refine r_icge (q := 54) (t := 66) DM_X7_warden_51 rfl (by decide) ⟨⟨i2, i9⟩, fun cc => ?_, fun cc => ?_⟩
          · replace h := h.1 cc
            refine r_ldc (q := 68) (n := (-1000000)) DM_X7_warden_66 rfl nRX7_209 ?_
            exact r_ret (v := some (.inl (-1000000))) ⟨DM_X7_warden_68, Or.inl rfl⟩ h
          · replace h := h.2 cc
            refine r_aloadn (q := 55) DM_X7_warden_54 rfl rfl ?_
            refine r_getR (q := 58) (r := 41) DM_X7_warden_55 rfl fRX7_53 sh_0 rfl ?_
            refine r_getR (q := 61) (r := 42) DM_X7_warden_58 rfl fRX7_241 sh_41 rfl ?_
            refine r_iloadn (q := 62) DM_X7_warden_61 rfl rfl ?_
            refine r_iald (q := 63) DM_X7_warden_62 rfl sh_42 (by decide) ⟨h.1, ?_⟩
            have i10 := h.1
            replace h := h.2
            refine r_goto (q := 68) DM_X7_warden_63 (by decide) ?_
            exact r_ret (v := some (.inl (μ3 42 x1))) ⟨DM_X7_warden_68, Or.inl rfl⟩ h
      · replace h := h.2 cc
        refine r_ldc (q := 27) (n := (-1000001)) DM_X7_warden_25 rfl nRX7_69 ?_
        exact r_ret (v := some (.inl (-1000001))) ⟨DM_X7_warden_27, Or.inl rfl⟩ h
  · replace h := h.2 cc
    refine r_ldc (q := 12) (n := (-1000002)) DM_X7_warden_10 rfl nRX7_144 ?_
    exact r_ret (v := some (.inl (-1000002))) ⟨DM_X7_warden_12, Or.inl rfl⟩ h
theorem pow_nn : ∀ n : Nat, n < 7 → (0 : Int) < ((n : Nat) : Int) ^ n ∧ ((n : Nat) : Int) ^ n ≤ 46656 := by decide +kernel
def wdA (v : CV) (x L : Int) (b : Int → Int) : Int := if x = -2 then fSum v 0 - L else if x = -1 then L else if x < nW v then b x else -1000000
def wdR (μ μ1 : Mem) : Prop := (∀ i, i ≠ 23 → μ1 83 i = μ 83 i) ∧ ∀ k, k ≠ 83 → k ≠ 91 → k ≠ 96 → k ≠ 97 → k ≠ 98 → k ≠ 99 → μ1 k = μ k
section P90
variable {E : Ex} {v : CV} {O : Int → Int} {x1 : Int} {μ : Mem} {Q : Option Vl → Mem → Prop}
theorem ref_warden (hC : CtOK v (μ 89)) (hs : v 0 0 = 1) (op : OP v O) (hx : -2 ≤ x1 ∧ x1 ≤ 5) (h : ∀ (μ1 : Mem) (L : Int) (b : Int → Int), wdR μ μ1 → WS v O (pst v (v 0 1)) (-1000000) (nW v ^ (nW v).toNat) L b → Q (some (.inl (wdA v x1 L b))) μ1) : Cl E 7 M_X8_warden [.inr 83, .inl x1] μ Q := by
  have hR := hC.1
  have hV := hR.2.1
  have N6 := hR.n
  have e2 := hR.a2
  have n6 := nW_rng hV.2.1
  have D0 := hV.2.2.2.1
  have D9 := hC.2.2
  have a0 : μ 89 0 = v 0 2 := hR.1.1
  have S4 : 1 ≤ v 0 2 ∧ v 0 2 ≤ 4 := by
    rcases hV.1 with q | q
    · exact absurd (q.1.symm.trans hs) (by decide)
    · exact q.2.1
  have pn := pow_nn (nW v).toNat (by omega)
  rw [Int.toNat_of_nonneg n6.1] at pn
  have gi : GI v O := fun i i0 i1 => by have := op.1 i i0 i1; omega
  have pr := pst_rng hV hR.2.2.2 D9 (v 0 1) N6.1 (Int.le_refl _)
  obtain ⟨u, eu⟩ : ∃ u, u = pst v (v 0 1) := ⟨_, rfl⟩
  have wr : ∀ z, 0 ≤ (gs v O u z (nW v)).2 ∧ (gs v O u z (nW v)).2 ≤ 10000 := fun z => by
    have := gs_rng (u := u) (z := z) hV S4.1 gi (nW v).toNat (by omega)
    rw [show (((nW v).toNat : Nat) : Int) = nW v by omega] at this
    omega
  rw [← eu] at h
  refine s_X8_warden (v := v) ⟨by omega, fun _ => ⟨by omega, fun _ => ?_, fun q => absurd hx q⟩, fun q => absurd (by omega) q⟩
  -- the codes
  have loop : ∀ c, 0 ≤ c → c ≤ nW v ^ (nW v).toNat → ∀ (μ' : Mem) (L : Int), (∀ k, k ≠ 91 → k ≠ 97 → k ≠ 98 → k ≠ 99 → μ' k = μ k) → (∀ j, 0 ≤ j → j < nW v → μ' 97 j = wtL v j) → WS v O u (-1000000) c L (μ' 99) → Gg E 7 M_X8_warden 70 [some (.inr 83), some (.inl x1), some (.inl (nW v)), some (.inl L), some (.inl c), none, none, none] [] μ' Q := by
    intro c0 hc0 hc1
    refine up_ind (N := nW v ^ (nW v).toNat) (P := fun c => ∀ (μ' : Mem) (L : Int), (∀ k, k ≠ 91 → k ≠ 97 → k ≠ 98 → k ≠ 99 → μ' k = μ k) → (∀ j, 0 ≤ j → j < nW v → μ' 97 j = wtL v j) → WS v O u (-1000000) c L (μ' 99) → Gg E 7 M_X8_warden 70 [some (.inr 83), some (.inl x1), some (.inl (nW v)), some (.inl L), some (.inl c), none, none, none] [] μ' Q) c0 hc1 (fun μ' L k1 k97 ws => ?_) (fun c cc0 c1 ih μ' L k1 k97 ws => ?_)
    · have f89 : μ' 89 = μ 89 := k1 89 (by decide) (by decide) (by decide) (by decide)
      have wd : wdR μ μ' := ⟨fun i _ => by rw [k1 83 (by decide) (by decide) (by decide) (by decide)], fun k _ a _ b c d => k1 k a b c d⟩
      refine s_X8_warden_70 (v := v) (k_X8_power (by omega) ⟨_, rfl, by omega, by omega, fun _ => ⟨by omega, fun q => ⟨fun q2 => ?_, fun q2 => ?_⟩, fun q => ⟨by omega, fun q2 => ?_, fun q2 => ⟨by omega, ?_⟩⟩⟩, fun q => absurd (Int.le_refl _) q⟩)
      · refine k_X8_waited0 (v := v) (by rw [f89]; exact hC) hs (fun μ6 g6 => ⟨_, rfl, ?_⟩)
        have := h μ6 L (μ' 99) ⟨fun i hi => by rw [g6.1 i hi, wd.1 i hi], fun k a b c d e f => by rw [g6.2 k a b c, wd.2 k a b c d e f]⟩ ws
        unfold wdA at this
        rwa [if_pos (show x1 = -2 by omega)] at this
      · have := h μ' L (μ' 99) wd ws
        unfold wdA at this
        rwa [if_neg (by omega), if_pos q2] at this
      · have := h μ' L (μ' 99) wd ws
        unfold wdA at this
        rwa [if_neg (by omega), if_neg (by omega), if_neg (by omega)] at this
      · have := h μ' L (μ' 99) wd ws
        unfold wdA at this
        rwa [if_neg (by omega), if_neg (by omega), if_pos (by omega)] at this
    · have c0' : 0 ≤ c := by omega
      refine s_X8_warden_70 (v := v) (k_X8_power (by omega) ⟨_, rfl, by omega, by omega, fun q => absurd q (by omega), fun _ => ?_⟩)
      refine k_X8_lines (v := v) hV (by omega) k97 (fun μ5 k5 l5 hp => ⟨_, rfl, fun q => absurd q (by decide), fun _ => ?_⟩) (fun μ5 k5 np => ⟨_, rfl, fun _ => ih μ5 L (fun k a b c d => by rw [k5 k c, k1 k a b c d]) (fun j j0 j1 => by rw [k5 97 (by decide)]; exact k97 j j0 j1) ?_, fun q => absurd q (by decide)⟩)
      · have f5 : ∀ k, k ≠ 91 → k ≠ 97 → k ≠ 98 → k ≠ 99 → μ5 k = μ k := fun k a b c d => by rw [k5 k c, k1 k a b c d]
        refine k_X8_waitedByLine (v := v) (O := O) (z := c) (by rw [f5 89 (by decide) (by decide) (by decide) (by decide)]; exact hR) hs D9 op c0' hp l5 (fun μ6 k6 => ⟨_, rfl, ?_⟩)
        rw [← eu]
        have wc := wr c
        have Lr : inR L := by
          rcases ws with q | ⟨z, -, -, q, -⟩
          · omega
          · have := wr z; omega
        have f6 : ∀ k, k ≠ 91 → k ≠ 97 → k ≠ 98 → k ≠ 99 → μ6 k = μ k := fun k a b c d => by rw [k6 k a, f5 k a b c d]
        have s97 : ∀ j, 0 ≤ j → j < nW v → μ6 97 j = wtL v j := fun j j0 j1 => by rw [k6 97 (by decide), k5 97 (by decide)]; exact k97 j j0 j1
        have s98 : ∀ j, 0 ≤ j → j < nW v → μ6 98 j = lin v c j := fun j j0 j1 => by rw [k6 98 (by decide)]; exact l5 j j0 j1
        have s99 : μ6 99 = μ' 99 := by rw [k6 99 (by decide), k5 99 (by decide)]
        have b1 : (L = -1000000 ∨ (gs v O u c (nW v)).2 < L) → Gg E 7 M_X8_warden 119 [some (.inr 83), some (.inl x1), some (.inl (nW v)), some (.inl L), some (.inl c), some (.inl (gs v O u c (nW v)).2), some (.inl 1), some (.inl 0)] [] μ6 Q := by
          intro hl
          suffices hh : ∀ μa : Mem, (∀ k, k ≠ 99 → μa k = μ6 k) → (∀ j, 0 ≤ j → j < 0 → μa 99 j = lin v c j) → Gg E 7 M_X8_warden 119 [some (.inr 83), some (.inl x1), some (.inl (nW v)), some (.inl L), some (.inl c), some (.inl (gs v O u c (nW v)).2), some (.inl 1), some (.inl 0)] [] μa Q from hh μ6 (fun _ _ => rfl) (fun j a b => absurd b (by omega))
          refine up_ind (N := nW v) (P := fun k => ∀ μa : Mem, (∀ k, k ≠ 99 → μa k = μ6 k) → (∀ j, 0 ≤ j → j < k → μa 99 j = lin v c j) → Gg E 7 M_X8_warden 119 [some (.inr 83), some (.inl x1), some (.inl (nW v)), some (.inl L), some (.inl c), some (.inl (gs v O u c (nW v)).2), some (.inl 1), some (.inl k)] [] μa Q) 0 n6.1 (fun μa ka ja => ?_) (fun k kk0 kk1 ihk μa ka ja => ?_)
          · refine s_X8_warden_119 (v := v) ⟨by omega, by omega, fun _ => ⟨by decide, fun q => absurd q (by decide), fun _ => ih μa _ (fun k a b c d => by rw [ka k d, f6 k a b c d]) (fun j j0 j1 => by rw [ka 97 (by decide)]; exact s97 j j0 j1) (ws.leaf c0' hp hl (fun z => by have := wr z; omega) ja)⟩, fun q => absurd (Int.le_refl _) q⟩
          · refine s_X8_warden_119 (v := v) ⟨by omega, by omega, fun q => absurd q (by omega), fun _ => ⟨by decide, fun q => absurd q (by decide), fun _ => ⟨by omega, fun μb eb => ihk μb (fun j hj => by rw [eb, up_ne hj, ka j hj]) (fun j j0 j1 => ?_)⟩⟩⟩
            rw [eb]
            by_cases e : j = k
            · rw [e, up_self, ka 98 (by decide)]; exact s98 k kk0 kk1
            · rw [up_off (Or.inr e)]; exact ja j j0 (by omega)
        have b0 : L ≠ -1000000 → L ≤ (gs v O u c (nW v)).2 → Gg E 7 M_X8_warden 119 [some (.inr 83), some (.inl x1), some (.inl (nW v)), some (.inl L), some (.inl c), some (.inl (gs v O u c (nW v)).2), some (.inl 0), some (.inl 0)] [] μ6 Q := by
          intro hl hl2
          have go := ih μ6 L f6 s97 (by
            rw [s99]
            exact ws.skip (fun y y0 y1 y2 _ => by have : y = c := by omega
                                                  rw [this]; exact ⟨hl, hl2⟩) (by omega))
          exact s_X8_warden_119 (v := v) ⟨by decide, by omega, fun _ => ⟨by decide, fun _ => go, fun q => absurd rfl q⟩, fun _ => ⟨by decide, fun _ => ⟨fun _ => go, fun q => absurd rfl q⟩, fun q => absurd rfl q⟩⟩
        exact ⟨Lr, fun q => b1 (Or.inl q), fun q => ⟨by omega, fun q2 => b0 q q2, fun q2 => b1 (Or.inr (by omega))⟩⟩
      · rw [k5 99 (by decide)]
        exact ws.skip (fun y y0 y1 y2 py => by have : y = c := by omega
                                               rw [this] at py; exact absurd py np) (by omega)
  -- those who wait
  suffices hh : ∀ μ' : Mem, (∀ k, k ≠ 97 → μ' k = μ k) → (∀ j, 0 ≤ j → j < cntI (wf v) 0 → μ' 97 j = wtL v j) → Gg E 7 M_X8_warden 27 [some (.inr 83), some (.inl x1), some (.inl (cntI (wf v) 0)), some (.inl 0), none, none, none, none] [] μ' Q from hh μ (fun _ _ => rfl) (fun j a b => absurd b (by rw [cntI_0]; omega))
  refine up_ind (N := v 0 1) (P := fun c => ∀ μ' : Mem, (∀ k, k ≠ 97 → μ' k = μ k) → (∀ j, 0 ≤ j → j < cntI (wf v) c → μ' 97 j = wtL v j) → Gg E 7 M_X8_warden 27 [some (.inr 83), some (.inl x1), some (.inl (cntI (wf v) c)), some (.inl c), none, none, none, none] [] μ' Q) 0 N6.1 (fun μ' k1 k97 => ?_) (fun c c0 c1 ih μ' k1 k97 => ?_)
  · have f2 : μ' 89 2 = v 0 1 := by rw [k1 89 (by decide)]; exact e2
    refine s_X8_warden_27 (v := v) ⟨by omega, by omega, fun _ => ?_, fun q => absurd (by omega) q⟩
    exact loop 0 (Int.le_refl _) (by omega) μ' _ (fun k _ a _ _ => k1 k a) k97 (Or.inl ⟨rfl, fun y y0 y1 => absurd y1 (by omega)⟩)
  · have f2 : μ' 89 2 = v 0 1 := by rw [k1 89 (by decide)]; exact e2
    have cr := cntI_rng (f := wf v) c c0
    refine s_X8_warden_27 (v := v) ⟨by omega, by omega, fun q => absurd q (by omega), fun _ => ⟨by rw [k1 89 (by decide)]; exact hR, ⟨c0, c1⟩, fun hf => ?_, fun hf => ⟨by omega, fun μ5 e5 => ?_⟩⟩⟩
    · have cs : cntI (wf v) (c + 1) = cntI (wf v) c := by rw [cntI_succ c0, show wf v c = false from hf]; exact Int.add_zero _
      rw [cs] at ih
      exact ih μ' k1 k97
    · have cs : cntI (wf v) (c + 1) = cntI (wf v) c + 1 := by rw [cntI_succ c0, show wf v c = true from hf]; rfl
      rw [cs] at ih
      refine ih μ5 (fun k hk => by rw [e5, up_ne hk, k1 k hk]) (fun j j0 j1 => ?_)
      rw [e5]
      by_cases e : j = cntI (wf v) c
      · rw [e, up_self, wtL_rank c0 c1 hf]
      · rw [up_off (Or.inr e)]; exact k97 j j0 (by omega)
theorem pr_warden (hI : Inv μ) (hRo : RoOk E) (i1 : inR x1) : Pair E 22 M_X7_warden 7 M_X8_warden [.inl x1] μ := by
  have hC := hI.2.2.2.2.1
  have hR := hC.1
  have g4 := hI.2.2.2.2.2.2.2.1
  have g14 := hI.2.2.2.2.2.2.2.2.1
  have g31 := hI.2.2.2.2.2.2.2.2.2.1
  have a0 : μ 89 0 = μ 4 2 := hR.1.1
  obtain ⟨v0, v1, -, v4, -⟩ := hR.2.1
  replace v1 : 0 ≤ μ 4 1 ∧ μ 4 1 ≤ 6 := v1
  replace v4 : 0 ≤ μ 4 4 ∧ μ 4 4 ≤ 1500 := v4
  replace v0 : (μ 4 0 = 0 ∧ μ 4 1 = 0 ∧ μ 4 2 = 0 ∧ μ 4 3 = 0 ∧ μ 4 4 = 0 ∧ μ 4 5 = 0) ∨ (μ 4 0 = 1 ∧ (1 ≤ μ 4 2 ∧ μ 4 2 ≤ 4) ∧ oOK (cv μ 4)) := v0
  refine s_X7_warden ⟨by omega, fun ne => ?_, fun eq => ⟨_, rfl, by decide, s_X8_warden (v := cv μ 4) ⟨by omega, fun q => absurd q (by omega), fun _ => ⟨rfl, hI⟩⟩⟩⟩
  have hs : μ 4 0 = 1 := by omega
  have S4 : 1 ≤ μ 4 2 ∧ μ 4 2 ≤ 4 := by omega
  have bad : ¬ (-2 ≤ x1 ∧ x1 ≤ 5) → ∃ r, (some (.inl (-1000001)) : Option Vl) = some (.inl r) ∧ inR r ∧ Cl E 7 M_X8_warden [.inr 83, .inl x1] μ (fun w μ2 => w = some (.inl r) ∧ Inv μ2) := fun hb =>
    ⟨_, rfl, by decide, s_X8_warden (v := cv μ 4) ⟨by omega, fun _ => ⟨i1, fun q => absurd q hb, fun _ => ⟨rfl, hI⟩⟩, fun q => absurd (show 0 < μ 89 0 by omega) q⟩⟩
  refine ⟨i1, fun q => bad (by omega), fun q1 => ⟨fun q2 => ?_, fun q2 => bad (by omega)⟩⟩
  have hx : -2 ≤ x1 ∧ x1 ≤ 5 := by omega
  have D9 : μ 4 4 ≤ 999 := hC.2.2
  refine k_X3_plan hR.2.1 hs g4 hC.2.1 hR.2.2.2 D9 (fun μ3 O k3 op s1 ws => ⟨rfl, ?_⟩)
  have n6 := nW_rng hR.2.1.2.1
  have gi : GI (cv μ 4) O := fun i i0 i1 => by have := op.1 i i0 i1; replace this : μ 4 4 + 1 ≤ O i ∧ O i ≤ 3000 := this; omega
  have pr := pst_rng hR.2.1 hR.2.2.2 D9 (μ 4 1) v1.1 (Int.le_refl _)
  obtain ⟨z0, z1, z2⟩ := perm_ex (v := cv μ 4) n6.1
  obtain ⟨-, bl, zz, Lz⟩ := ws.det ws ⟨z0, z1, z2⟩
  have wr := gs_rng (u := pst (cv μ 4) (μ 4 1)) (z := zz) hR.2.1 S4.1 gi (nW (cv μ 4)).toNat (by omega)
  rw [show (((nW (cv μ 4)).toNat : Nat) : Int) = nW (cv μ 4) by omega] at wr
  have Lr : 0 ≤ μ3 41 2 ∧ μ3 41 2 ≤ 10000 := by omega
  have fin : ∀ (μa : Mem) (ans : Int), (∀ k, (k < 14 ∨ 24 ≤ k) → μa k = μ3 k) → RgC μa 14 → (∀ (L : Int) (b : Int → Int), L = μ3 41 2 → (∀ k, 0 ≤ k → k < nW (cv μ 4) → b k = μ3 42 k) → wdA (cv μ 4) x1 L b = ans) → Cl E 7 M_X8_warden [.inr 83, .inl x1] μa (fun w μ2 => w = some (.inl ans) ∧ Inv μ2) := by
    intro μa ans ka ga ha
    have kb : ∀ k, (k < 14 ∨ 24 ≤ k) → (k < 41 ∨ 44 < k) → μa k = μ k := fun k a b => by rw [ka k a, k3 k (by omega) (by omega) (by omega) (by omega)]
    refine ref_warden (v := cv μ 4) (O := O) (by rw [kb 89 (by omega) (by omega)]; exact hC) hs op hx (fun μb L b wd ws' => ⟨?_, ?_⟩)
    · obtain ⟨e1, e2, -⟩ := ws.det ws' ⟨z0, z1, z2⟩
      rw [ha L b e1.symm (fun k k0 k1 => (e2 k k0 k1).symm)]
    · exact hI.fore (fun k hk => by rw [wd.2 k (by omega) (by omega) (by omega) (by omega) (by omega) (by omega), kb k (by omega) (by omega)]) (fun i hi => by rw [wd.1 i hi, kb 83 (by omega) (by omega)]) (ga.cg (fun k a b => wd.2 k (by omega) (by omega) (by omega) (by omega) (by omega) (by omega))) (g31.cg (fun k a b => by rw [wd.2 k (by omega) (by omega) (by omega) (by omega) (by omega) (by omega), kb k (by omega) (by omega)]))
  have g143 : RgC μ3 14 := g14.cg (fun k a b => k3 k (by omega) (by omega) (by omega) (by omega))
  refine ⟨fun lt0 => ⟨fun n1 => ?_, fun e1 => ⟨_, rfl, by omega, fin μ3 _ (fun _ _ => rfl) g143 (fun L b eL eb => ?_)⟩⟩, fun ge0 => ⟨by omega, fun ge => ⟨_, rfl, by decide, fin μ3 _ (fun _ _ => rfl) g143 (fun L b eL eb => ?_)⟩, fun lt => ⟨by omega, _, rfl, ?_, fin μ3 _ (fun _ _ => rfl) g143 (fun L b eL eb => ?_)⟩⟩⟩
  · have ev : eqv (cv μ 4) (cv μ3 4) := cv_eqv (fun k a b => k3 k (by omega) (by omega) (by omega) (by omega))
    have g43 : RgC μ3 4 := g4.cg (fun k a b => k3 k (by omega) (by omega) (by omega) (by omega))
    have f44 : μ3 4 4 = μ 4 4 := by rw [k3 4 (by decide) (by decide) (by decide) (by decide)]
    refine k_X7_foretell (hC.eqv ev) g43 g143 hRo (by rw [k3 4 (by decide) (by decide) (by decide) (by decide)]; exact hs) (fun μ5 k5 g5 e5 => ⟨rfl, g5, ?_⟩)
    have n1 : μ5 14 1 = μ 4 1 := by
      have := e5.1 1 (by decide)
      rw [runD_0 300 _ _ 0 (by decide)] at this
      replace this : μ5 14 1 = μ3 4 1 := this
      rw [this, k3 4 (by decide) (by decide) (by decide) (by decide)]
    have cr := cSum_rng (Rgv.of g5) (show 0 ≤ μ5 14 1 ∧ μ5 14 1 ≤ 6 by omega)
    have f42 : μ5 41 2 = μ3 41 2 := by rw [k5 41 (by decide)]
    have c4 : cv μ 4 0 4 = μ 4 4 := rfl
    have es : cSum (cv μ5 14) = fSum (cv μ 4) 0 := by
      rw [e5.sum, ← (runD_eqv 300 _ _ _ ev).sum, f44, fSum, c4]
    refine ⟨by omega, _, rfl, by omega, fin μ5 _ k5 g5 (fun L b eL eb => ?_)⟩
    unfold wdA
    rw [if_pos (by omega), eL, f42, es]
  · unfold wdA
    rw [if_neg (by omega), if_pos e1, eL]
  · unfold wdA
    rw [if_neg (by omega), if_neg (by omega), if_neg (by omega)]
  · rcases ws with q | ⟨z, y0, y1, y2, y3, y4⟩
    · omega
    · have lo := lin_ok (v := cv μ 4) (z := z) hR.2.1.2.1.1 (k := x1) (by omega) (by omega)
      rw [y3 x1 (by omega) (by omega)]
      have l2 : lin (cv μ 4) z x1 < μ 4 1 := lo.1.2
      have l1 := lo.1.1
      unfold inR; omega
  · unfold wdA
    rw [if_neg (by omega), if_neg (by omega), if_pos (by omega), eb x1 (by omega) (by omega)]
end P90

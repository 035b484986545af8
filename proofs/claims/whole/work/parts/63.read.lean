/-! Small steps of the reader, on both sides. -/
set_option maxRecDepth 20000 in
theorem s_X8_readsOrder {E : Ex} {μ : Mem} {Q : Option Vl → Mem → Prop}  (h : inR (μ 83 11) ∧ ((μ 83 11) ≠ 1 → Cl E 2 M_X8_takes [.inr 83, .inl 0, .inl 1] μ (fun vv μ2 => ∃ v3, vv = some (.inl v3) ∧ Gg E 3 M_X8_readsOrder 32 [some (.inr 83), some (.inl 0), some (.inl 0), none] [] μ2 Q)) ∧ ((μ 83 11) = 1 → inR (μ 83 12) ∧ ((μ 83 12) ≠ 111 → Cl E 2 M_X8_takes [.inr 83, .inl 0, .inl 1] μ (fun vv μ5 => ∃ v6, vv = some (.inl v6) ∧ Gg E 3 M_X8_readsOrder 32 [some (.inr 83), some (.inl 0), some (.inl 0), none] [] μ5 Q)) ∧ ((μ 83 12) = 111 → Cl E 2 M_X8_takes [.inr 83, .inl 1, .inl 1] μ (fun vv μ7 => ∃ v8, vv = some (.inl v8) ∧ Gg E 3 M_X8_readsOrder 32 [some (.inr 83), some (.inl 0), some (.inl 0), none] [] μ7 Q)))) : Cl E 3 M_X8_readsOrder [.inr 83] μ Q := by
  show Gg E 3 M_X8_readsOrder 0 [some (.inr 83), none, none, none] [] μ Q
  refine r_aloadn (q := 1) DM_X8_readsOrder_0 rfl rfl ?_
  refine r_aloadn (q := 2) DM_X8_readsOrder_1 rfl rfl ?_
  refine v_getI (q := 5) (ji := 11) DM_X8_readsOrder_2 rfl fRX8_107 sh_83 rfl rfl ?_
  refine r_iconst (q := 6) (n := 1) DM_X8_readsOrder_5 rfl ?_
  have i1 := h.1
  replace h := h.2
  refine r_icne (q := 9) (t := 22) DM_X8_readsOrder_6 rfl (by decide) ⟨⟨i1, (by decide)⟩, fun cc => ?_, fun cc => ?_⟩
  · replace h := h.1 cc
    refine r_iconst (q := 23) (n := 0) DM_X8_readsOrder_22 rfl ?_
    refine r_iconst (q := 24) (n := 1) DM_X8_readsOrder_23 rfl ?_
    refine r_callVi [.inl 0, .inl 1] (q := 27) DM_X8_readsOrder_24 rfl kM_X8_takes lRX8_123 sh_83 rfl rfl (by decide) (Nat.le_of_ble_eq_true rfl) rfl (Cl.imp h (fun vv μ2 h => ?_))
    obtain ⟨v3, hv, h⟩ := h
    refine ⟨v3, hv, ?_⟩
    refine r_pop (q := 28) DM_X8_readsOrder_27 rfl ?_
    refine r_iconst (q := 29) (n := 0) DM_X8_readsOrder_28 rfl ?_
    refine v_istoren (q := 30) (ls' := [some (.inr 83), some (.inl 0), none, none]) DM_X8_readsOrder_29 rfl (by decide) rfl ?_
    refine r_iconst (q := 31) (n := 0) DM_X8_readsOrder_30 rfl ?_
    refine v_istoren (q := 32) (ls' := [some (.inr 83), some (.inl 0), some (.inl 0), none]) DM_X8_readsOrder_31 rfl (by decide) rfl ?_
    exact h
  · replace h := h.2 cc
    refine r_aloadn (q := 10) DM_X8_readsOrder_9 rfl rfl ?_
    refine v_getI (q := 13) (ji := 12) DM_X8_readsOrder_10 rfl fRX8_104 sh_83 rfl rfl ?_
    refine r_bipush (q := 15) (n := 111) DM_X8_readsOrder_13 rfl (by decide) ?_
    have i4 := h.1
    replace h := h.2
    refine r_icne (q := 18) (t := 22) DM_X8_readsOrder_15 rfl (by decide) ⟨⟨i4, (by decide)⟩, fun cc => ?_, fun cc => ?_⟩
    · replace h := h.1 cc
      refine r_iconst (q := 23) (n := 0) DM_X8_readsOrder_22 rfl ?_
      refine r_iconst (q := 24) (n := 1) DM_X8_readsOrder_23 rfl ?_
      refine r_callVi [.inl 0, .inl 1] (q := 27) DM_X8_readsOrder_24 rfl kM_X8_takes lRX8_123 sh_83 rfl rfl (by decide) (Nat.le_of_ble_eq_true rfl) rfl (Cl.imp h (fun vv μ5 h => ?_))
      obtain ⟨v6, hv, h⟩ := h
      refine ⟨v6, hv, ?_⟩
      refine r_pop (q := 28) DM_X8_readsOrder_27 rfl ?_
      refine r_iconst (q := 29) (n := 0) DM_X8_readsOrder_28 rfl ?_
      refine v_istoren (q := 30) (ls' := [some (.inr 83), some (.inl 0), none, none]) DM_X8_readsOrder_29 rfl (by decide) rfl ?_
      refine r_iconst (q := 31) (n := 0) DM_X8_readsOrder_30 rfl ?_
      refine v_istoren (q := 32) (ls' := [some (.inr 83), some (.inl 0), some (.inl 0), none]) DM_X8_readsOrder_31 rfl (by decide) rfl ?_
      exact h
    · replace h := h.2 cc
      refine r_iconst (q := 19) (n := 1) DM_X8_readsOrder_18 rfl ?_
      refine r_goto (q := 23) DM_X8_readsOrder_19 (by decide) ?_
      refine r_iconst (q := 24) (n := 1) DM_X8_readsOrder_23 rfl ?_
      refine r_callVi [.inl 1, .inl 1] (q := 27) DM_X8_readsOrder_24 rfl kM_X8_takes lRX8_123 sh_83 rfl rfl (by decide) (Nat.le_of_ble_eq_true rfl) rfl (Cl.imp h (fun vv μ7 h => ?_))
      obtain ⟨v8, hv, h⟩ := h
      refine ⟨v8, hv, ?_⟩
      refine r_pop (q := 28) DM_X8_readsOrder_27 rfl ?_
      refine r_iconst (q := 29) (n := 0) DM_X8_readsOrder_28 rfl ?_
      refine v_istoren (q := 30) (ls' := [some (.inr 83), some (.inl 0), none, none]) DM_X8_readsOrder_29 rfl (by decide) rfl ?_
      refine r_iconst (q := 31) (n := 0) DM_X8_readsOrder_30 rfl ?_
      refine v_istoren (q := 32) (ls' := [some (.inr 83), some (.inl 0), some (.inl 0), none]) DM_X8_readsOrder_31 rfl (by decide) rfl ?_
      exact h
set_option maxRecDepth 20000 in
theorem s_X8_readsOrder_32 {E : Ex} {μ : Mem} {Q : Option Vl → Mem → Prop} {x1 x2 : Int}  (h : Cl E 1 M_X8_isName [.inr 83] μ (fun vv μ1 => ∃ v2, vv = some (.inl (bi v2)) ∧ (v2 = false → inR (μ1 83 11) ∧ ((μ1 83 11) ≠ 4 → Cl E 2 M_X8_takes [.inr 83, .inl 0, .inl 1] μ1 (fun vv μ4 => ∃ v5, vv = some (.inl v5) ∧ Gg E 3 M_X8_readsOrder 119 [some (.inr 83), some (.inl x1), some (.inl x2), some (.inl 0)] [] μ4 Q)) ∧ ((μ1 83 11) = 4 → Cl E 2 M_X8_takes [.inr 83, .inl 1, .inl 1] μ1 (fun vv μ6 => ∃ v7, vv = some (.inl v7) ∧ Gg E 3 M_X8_readsOrder 119 [some (.inr 83), some (.inl x1), some (.inl x2), some (.inl 0)] [] μ6 Q))) ∧ (v2 = true → (0 ≤ x1 ∧ x1 < 256) ∧ (0 ≤ ((μ1 83 12) - 97) ∧ ((μ1 83 12) - 97) < 8) ∧ ((x1.toNat.testBit ((μ1 83 12) - 97).toNat) = true → Gg E 3 M_X8_readsOrder 61 [some (.inr 83), some (.inl x1), some (.inl x2), some (.inl ((μ1 83 12) - 97))] [.inl 0, .inr 83] μ1 Q) ∧ ((x1.toNat.testBit ((μ1 83 12) - 97).toNat) = false → Gg E 3 M_X8_readsOrder 61 [some (.inr 83), some (.inl x1), some (.inl x2), some (.inl ((μ1 83 12) - 97))] [.inl 1, .inr 83] μ1 Q)))) : Gg E 3 M_X8_readsOrder 32 [some (.inr 83), some (.inl x1), some (.inl x2), none] [] μ Q := by
  refine r_aloadn (q := 33) DM_X8_readsOrder_32 rfl rfl ?_
  refine r_callVi [] (q := 36) DM_X8_readsOrder_33 rfl kM_X8_isName lRX8_127 sh_83 rfl rfl (by decide) (Nat.le_of_ble_eq_true rfl) rfl (Cl.imp h (fun vv μ1 h => ?_))
  obtain ⟨v2, hv, h⟩ := h
  refine ⟨_, hv, ?_⟩
  refine r_bbeq (q := 39) (t := 98) DM_X8_readsOrder_36 rfl (by decide) ⟨fun cc => ?_, fun cc => ?_⟩
  · replace h := h.1 cc
    refine r_aloadn (q := 99) DM_X8_readsOrder_98 rfl rfl ?_
    refine r_aloadn (q := 100) DM_X8_readsOrder_99 rfl rfl ?_
    refine v_getI (q := 103) (ji := 11) DM_X8_readsOrder_100 rfl fRX8_107 sh_83 rfl rfl ?_
    refine r_iconst (q := 104) (n := 4) DM_X8_readsOrder_103 rfl ?_
    have i3 := h.1
    replace h := h.2
    refine r_icne (q := 107) (t := 111) DM_X8_readsOrder_104 rfl (by decide) ⟨⟨i3, (by decide)⟩, fun cc => ?_, fun cc => ?_⟩
    · replace h := h.1 cc
      refine r_iconst (q := 112) (n := 0) DM_X8_readsOrder_111 rfl ?_
      refine r_iconst (q := 113) (n := 1) DM_X8_readsOrder_112 rfl ?_
      refine r_callVi [.inl 0, .inl 1] (q := 116) DM_X8_readsOrder_113 rfl kM_X8_takes lRX8_123 sh_83 rfl rfl (by decide) (Nat.le_of_ble_eq_true rfl) rfl (Cl.imp h (fun vv μ4 h => ?_))
      obtain ⟨v5, hv, h⟩ := h
      refine ⟨v5, hv, ?_⟩
      refine r_pop (q := 117) DM_X8_readsOrder_116 rfl ?_
      refine r_iconst (q := 118) (n := 0) DM_X8_readsOrder_117 rfl ?_
      refine v_istoren (q := 119) (ls' := [some (.inr 83), some (.inl x1), some (.inl x2), some (.inl 0)]) DM_X8_readsOrder_118 rfl (by decide) rfl ?_
      exact h
    · replace h := h.2 cc
      refine r_iconst (q := 108) (n := 1) DM_X8_readsOrder_107 rfl ?_
      refine r_goto (q := 112) DM_X8_readsOrder_108 (by decide) ?_
      refine r_iconst (q := 113) (n := 1) DM_X8_readsOrder_112 rfl ?_
      refine r_callVi [.inl 1, .inl 1] (q := 116) DM_X8_readsOrder_113 rfl kM_X8_takes lRX8_123 sh_83 rfl rfl (by decide) (Nat.le_of_ble_eq_true rfl) rfl (Cl.imp h (fun vv μ6 h => ?_))
      obtain ⟨v7, hv, h⟩ := h
      refine ⟨v7, hv, ?_⟩
      refine r_pop (q := 117) DM_X8_readsOrder_116 rfl ?_
      refine r_iconst (q := 118) (n := 0) DM_X8_readsOrder_117 rfl ?_
      refine v_istoren (q := 119) (ls' := [some (.inr 83), some (.inl x1), some (.inl x2), some (.inl 0)]) DM_X8_readsOrder_118 rfl (by decide) rfl ?_
      exact h
  · replace h := h.2 cc
    refine r_aloadn (q := 40) DM_X8_readsOrder_39 rfl rfl ?_
    refine v_getI (q := 43) (ji := 12) DM_X8_readsOrder_40 rfl fRX8_104 sh_83 rfl rfl ?_
    refine r_bipush (q := 45) (n := 97) DM_X8_readsOrder_43 rfl (by decide) ?_
    refine r_isub (q := 46) DM_X8_readsOrder_45 rfl ?_
    refine v_istoren (q := 47) (ls' := [some (.inr 83), some (.inl x1), some (.inl x2), some (.inl ((μ1 83 12) - 97))]) DM_X8_readsOrder_46 rfl (by decide) rfl ?_
    refine r_aloadn (q := 48) DM_X8_readsOrder_47 rfl rfl ?_
    refine r_iloadn (q := 49) DM_X8_readsOrder_48 rfl rfl ?_
    refine r_iloadn (q := 50) DM_X8_readsOrder_49 rfl rfl ?_
    have i8 := h.1
    replace h := h.2
    have i9 := h.1
    replace h := h.2
    refine r_callSi [.inl x1, .inl ((μ1 83 12) - 97)] (q := 53) DM_X8_readsOrder_50 rfl kM_X8_has lRX8_130 rfl (by decide) (Nat.le_of_ble_eq_true rfl) rfl (k_X8_has i8 i9 ⟨_, rfl, ?_⟩)
    refine r_bbne (q := 56) (t := 60) DM_X8_readsOrder_53 rfl (by decide) ⟨fun cc => ?_, fun cc => ?_⟩
    · replace h := h.1 cc
      refine r_iconst (q := 61) (n := 0) DM_X8_readsOrder_60 rfl ?_
      exact h
    · replace h := h.2 cc
      refine r_iconst (q := 57) (n := 1) DM_X8_readsOrder_56 rfl ?_
      refine r_goto (q := 61) DM_X8_readsOrder_57 (by decide) ?_
      exact h
set_option maxRecDepth 20000 in
theorem s_X8_readsOrder_61 {E : Ex} {μ : Mem} {Q : Option Vl → Mem → Prop} {x1 x2 x3 y0 : Int}  (h : Cl E 2 M_X8_takes [.inr 83, .inl y0, .inl 2] μ (fun vv μ1 => ∃ v2, vv = some (.inl v2) ∧ inR x2 ∧ (x2 ≥ 8 → ∀ μ4 : Mem, μ4 = up μ1 90 (5 + 7) x3 → Gg E 3 M_X8_readsOrder 32 [some (.inr 83), some (.inl (jor x1 (jshl 1 x3))), some (.inl (x2 + 1)), none] [] μ4 Q) ∧ (¬ x2 ≥ 8 → (0 ≤ (5 + x2) ∧ (5 + x2) < 91) ∧ ∀ μ5 : Mem, μ5 = up μ1 90 (5 + x2) x3 → Gg E 3 M_X8_readsOrder 32 [some (.inr 83), some (.inl (jor x1 (jshl 1 x3))), some (.inl (x2 + 1)), none] [] μ5 Q))) : Gg E 3 M_X8_readsOrder 61 [some (.inr 83), some (.inl x1), some (.inl x2), some (.inl x3)] [.inl y0, .inr 83] μ Q := by
  refine r_iconst (q := 62) (n := 2) DM_X8_readsOrder_61 rfl ?_
  refine r_callVi [.inl y0, .inl 2] (q := 65) DM_X8_readsOrder_62 rfl kM_X8_takes lRX8_123 sh_83 rfl rfl (by decide) (Nat.le_of_ble_eq_true rfl) rfl (Cl.imp h (fun vv μ1 h => ?_))
  obtain ⟨v2, hv, h⟩ := h
  refine ⟨v2, hv, ?_⟩
  refine r_pop (q := 66) DM_X8_readsOrder_65 rfl ?_
  refine r_iloadn (q := 67) DM_X8_readsOrder_66 rfl rfl ?_
  refine r_iconst (q := 68) (n := 1) DM_X8_readsOrder_67 rfl ?_
  refine r_iloadn (q := 69) DM_X8_readsOrder_68 rfl rfl ?_
  refine r_ishl (q := 70) DM_X8_readsOrder_69 rfl ?_
  refine r_ior (q := 71) DM_X8_readsOrder_70 rfl ?_
  refine v_istoren (q := 72) (ls' := [some (.inr 83), some (.inl (jor x1 (jshl 1 x3))), some (.inl x2), some (.inl x3)]) DM_X8_readsOrder_71 rfl (by decide) rfl ?_
  refine r_aloadn (q := 73) DM_X8_readsOrder_72 rfl rfl ?_
  refine r_getR (q := 76) (r := 90) DM_X8_readsOrder_73 rfl fRX8_28 sh_83 rfl ?_
  refine r_iconst (q := 77) (n := 5) DM_X8_readsOrder_76 rfl ?_
  refine r_iloadn (q := 78) DM_X8_readsOrder_77 rfl rfl ?_
  refine r_bipush (q := 80) (n := 8) DM_X8_readsOrder_78 rfl (by decide) ?_
  have i3 := h.1
  replace h := h.2
  refine r_icge (q := 83) (t := 87) DM_X8_readsOrder_80 rfl (by decide) ⟨⟨i3, (by decide)⟩, fun cc => ?_, fun cc => ?_⟩
  · replace h := h.1 cc
    refine r_bipush (q := 89) (n := 7) DM_X8_readsOrder_87 rfl (by decide) ?_
    refine r_iadd (q := 90) DM_X8_readsOrder_89 rfl ?_
    refine r_iloadn (q := 91) DM_X8_readsOrder_90 rfl rfl ?_
    refine v_iast (q := 92) DM_X8_readsOrder_91 rfl sh_90 (by decide) ⟨by decide, fun μ4 e4 => ?_⟩
    replace h := h μ4 e4
    refine v_iinc (q := 95) (ls' := [some (.inr 83), some (.inl (jor x1 (jshl 1 x3))), some (.inl (x2 + 1)), some (.inl x3)]) DM_X8_readsOrder_92 rfl rfl (by decide) rfl ?_
    refine r_goto (q := 32) DM_X8_readsOrder_95 (by decide) ?_
    exact Gg.weak [true, true, true, false] h
  · replace h := h.2 cc
    refine r_iloadn (q := 84) DM_X8_readsOrder_83 rfl rfl ?_
    refine r_goto (q := 89) DM_X8_readsOrder_84 (by decide) ?_
    refine r_iadd (q := 90) DM_X8_readsOrder_89 rfl ?_
    refine r_iloadn (q := 91) DM_X8_readsOrder_90 rfl rfl ?_
    refine v_iast (q := 92) DM_X8_readsOrder_91 rfl sh_90 (by decide) ⟨h.1, fun μ5 e5 => ?_⟩
    have i6 := h.1
    replace h := h.2 μ5 e5
    refine v_iinc (q := 95) (ls' := [some (.inr 83), some (.inl (jor x1 (jshl 1 x3))), some (.inl (x2 + 1)), some (.inl x3)]) DM_X8_readsOrder_92 rfl rfl (by decide) rfl ?_
    refine r_goto (q := 32) DM_X8_readsOrder_95 (by decide) ?_
    exact Gg.weak [true, true, true, false] h
set_option maxRecDepth 20000 in
theorem s_X8_readsOrder_119 {E : Ex} {μ : Mem} {Q : Option Vl → Mem → Prop} {x1 x2 x3 : Int}  (h : inR x3 ∧ (x3 ≥ 8 → Q none μ) ∧ (¬ x3 ≥ 8 → Cl E 0 M_X8_isWell [.inr 83] μ (fun vv μ2 => ∃ v3, vv = some (.inl (bi v3)) ∧ (v3 = false → Q none μ2) ∧ (v3 = true → (0 ≤ x1 ∧ x1 < 256) ∧ (0 ≤ x3 ∧ x3 < 8) ∧ ((x1.toNat.testBit x3.toNat) = true → Gg E 3 M_X8_readsOrder 119 [some (.inr 83), some (.inl x1), some (.inl x2), some (.inl (x3 + 1))] [] μ2 Q) ∧ ((x1.toNat.testBit x3.toNat) = false → (0 ≤ (5 + x2) ∧ (5 + x2) < 91) ∧ ∀ μ6 : Mem, μ6 = up μ2 90 (5 + x2) x3 → Gg E 3 M_X8_readsOrder 119 [some (.inr 83), some (.inl x1), some (.inl (x2 + 1)), some (.inl (x3 + 1))] [] μ6 Q))))) : Gg E 3 M_X8_readsOrder 119 [some (.inr 83), some (.inl x1), some (.inl x2), some (.inl x3)] [] μ Q := by
  refine r_iloadn (q := 120) DM_X8_readsOrder_119 rfl rfl ?_
  refine r_bipush (q := 122) (n := 8) DM_X8_readsOrder_120 rfl (by decide) ?_
  have i1 := h.1
  replace h := h.2
  refine r_icge (q := 125) (t := 158) DM_X8_readsOrder_122 rfl (by decide) ⟨⟨i1, (by decide)⟩, fun cc => ?_, fun cc => ?_⟩
  · replace h := h.1 cc
    exact r_ret (v := none) ⟨DM_X8_readsOrder_158, rfl⟩ h
  · replace h := h.2 cc
    refine r_aloadn (q := 126) DM_X8_readsOrder_125 rfl rfl ?_
    refine r_callVi [] (q := 129) DM_X8_readsOrder_126 rfl kM_X8_isWell lRX8_113 sh_83 rfl rfl (by decide) (Nat.le_of_ble_eq_true rfl) rfl (Cl.imp h (fun vv μ2 h => ?_))
    obtain ⟨v3, hv, h⟩ := h
    refine ⟨_, hv, ?_⟩
    refine r_bbeq (q := 132) (t := 158) DM_X8_readsOrder_129 rfl (by decide) ⟨fun cc => ?_, fun cc => ?_⟩
    · replace h := h.1 cc
      exact r_ret (v := none) ⟨DM_X8_readsOrder_158, rfl⟩ h
    · replace h := h.2 cc
      refine r_iloadn (q := 133) DM_X8_readsOrder_132 rfl rfl ?_
      refine r_iloadn (q := 134) DM_X8_readsOrder_133 rfl rfl ?_
      have i4 := h.1
      replace h := h.2
      have i5 := h.1
      replace h := h.2
      refine r_callSi [.inl x1, .inl x3] (q := 137) DM_X8_readsOrder_134 rfl kM_X8_has lRX8_130 rfl (by decide) (Nat.le_of_ble_eq_true rfl) rfl (k_X8_has i4 i5 ⟨_, rfl, ?_⟩)
      refine r_bbne (q := 140) (t := 152) DM_X8_readsOrder_137 rfl (by decide) ⟨fun cc => ?_, fun cc => ?_⟩
      · replace h := h.1 cc
        refine v_iinc (q := 155) (ls' := [some (.inr 83), some (.inl x1), some (.inl x2), some (.inl (x3 + 1))]) DM_X8_readsOrder_152 rfl rfl (by decide) rfl ?_
        refine r_goto (q := 119) DM_X8_readsOrder_155 (by decide) ?_
        exact h
      · replace h := h.2 cc
        refine r_aloadn (q := 141) DM_X8_readsOrder_140 rfl rfl ?_
        refine r_getR (q := 144) (r := 90) DM_X8_readsOrder_141 rfl fRX8_28 sh_83 rfl ?_
        refine r_iconst (q := 145) (n := 5) DM_X8_readsOrder_144 rfl ?_
        refine r_iloadn (q := 146) DM_X8_readsOrder_145 rfl rfl ?_
        refine r_iadd (q := 147) DM_X8_readsOrder_146 rfl ?_
        refine r_iloadn (q := 148) DM_X8_readsOrder_147 rfl rfl ?_
        refine v_iast (q := 149) DM_X8_readsOrder_148 rfl sh_90 (by decide) ⟨h.1, fun μ6 e6 => ?_⟩
        have i7 := h.1
        replace h := h.2 μ6 e6
        refine v_iinc (q := 152) (ls' := [some (.inr 83), some (.inl x1), some (.inl (x2 + 1)), some (.inl x3)]) DM_X8_readsOrder_149 rfl rfl (by decide) rfl ?_
        refine v_iinc (q := 155) (ls' := [some (.inr 83), some (.inl x1), some (.inl (x2 + 1)), some (.inl (x3 + 1))]) DM_X8_readsOrder_152 rfl rfl (by decide) rfl ?_
        refine r_goto (q := 119) DM_X8_readsOrder_155 (by decide) ?_
        exact h
set_option maxRecDepth 20000 in
theorem s_X8_readsPerson {E : Ex} {μ : Mem} {Q : Option Vl → Mem → Prop}  (h : Cl E 0 M_X8_kindOf [.inl (μ 83 12)] μ (fun vv μ1 => ∃ v2, vv = some (.inl v2) ∧ inR (μ1 90 2) ∧ ((μ1 90 2) ≥ 6 → Gg E 4 M_X8_readsPerson 25 [some (.inr 83), some (.inl v2), none, none, none, none] [.inl 0, .inr 83] μ1 Q) ∧ (¬ (μ1 90 2) ≥ 6 → Gg E 4 M_X8_readsPerson 25 [some (.inr 83), some (.inl v2), none, none, none, none] [.inl 1, .inr 83] μ1 Q))) : Cl E 4 M_X8_readsPerson [.inr 83] μ Q := by
  show Gg E 4 M_X8_readsPerson 0 [some (.inr 83), none, none, none, none, none] [] μ Q
  refine r_aloadn (q := 1) DM_X8_readsPerson_0 rfl rfl ?_
  refine v_getI (q := 4) (ji := 12) DM_X8_readsPerson_1 rfl fRX8_104 sh_83 rfl rfl ?_
  refine r_callSi [.inl (μ 83 12)] (q := 7) DM_X8_readsPerson_4 rfl kM_X8_kindOf lRX8_134 rfl (by decide) (Nat.le_of_ble_eq_true rfl) rfl (Cl.imp h (fun vv μ1 h => ?_))
  obtain ⟨v2, hv, h⟩ := h
  refine ⟨v2, hv, ?_⟩
  refine v_istoren (q := 8) (ls' := [some (.inr 83), some (.inl v2), none, none, none, none]) DM_X8_readsPerson_7 rfl (by decide) rfl ?_
  refine r_aloadn (q := 9) DM_X8_readsPerson_8 rfl rfl ?_
  refine r_aloadn (q := 10) DM_X8_readsPerson_9 rfl rfl ?_
  refine r_getR (q := 13) (r := 90) DM_X8_readsPerson_10 rfl fRX8_28 sh_83 rfl ?_
  refine r_iconst (q := 14) (n := 2) DM_X8_readsPerson_13 rfl ?_
  refine r_iald (q := 15) DM_X8_readsPerson_14 rfl sh_90 (by decide) ⟨by decide, ?_⟩
  refine r_bipush (q := 17) (n := 6) DM_X8_readsPerson_15 rfl (by decide) ?_
  have i3 := h.1
  replace h := h.2
  refine r_icge (q := 20) (t := 24) DM_X8_readsPerson_17 rfl (by decide) ⟨⟨i3, (by decide)⟩, fun cc => ?_, fun cc => ?_⟩
  · replace h := h.1 cc
    refine r_iconst (q := 25) (n := 0) DM_X8_readsPerson_24 rfl ?_
    exact h
  · replace h := h.2 cc
    refine r_iconst (q := 21) (n := 1) DM_X8_readsPerson_20 rfl ?_
    refine r_goto (q := 25) DM_X8_readsPerson_21 (by decide) ?_
    exact h
set_option maxRecDepth 20000 in
theorem s_X8_readsPerson_25 {E : Ex} {μ : Mem} {Q : Option Vl → Mem → Prop} {x1 y0 : Int}  (h : Cl E 2 M_X8_takes [.inr 83, .inl y0, .inl 3] μ (fun vv μ1 => ∃ v2, vv = some (.inl v2) ∧ inR (μ1 90 2) ∧ ((μ1 90 2) ≥ 6 → Gg E 4 M_X8_readsPerson 60 [some (.inr 83), some (.inl x1), some (.inl (13 + (13 * 0))), some (.inl 0), none, none] [] μ1 Q) ∧ (¬ (μ1 90 2) ≥ 6 → Gg E 4 M_X8_readsPerson 60 [some (.inr 83), some (.inl x1), some (.inl (13 + (13 * (μ1 90 2)))), some (.inl 0), none, none] [] μ1 Q))) : Gg E 4 M_X8_readsPerson 25 [some (.inr 83), some (.inl x1), none, none, none, none] [.inl y0, .inr 83] μ Q := by
  refine r_iconst (q := 26) (n := 3) DM_X8_readsPerson_25 rfl ?_
  refine r_callVi [.inl y0, .inl 3] (q := 29) DM_X8_readsPerson_26 rfl kM_X8_takes lRX8_123 sh_83 rfl rfl (by decide) (Nat.le_of_ble_eq_true rfl) rfl (Cl.imp h (fun vv μ1 h => ?_))
  obtain ⟨v2, hv, h⟩ := h
  refine ⟨v2, hv, ?_⟩
  refine r_pop (q := 30) DM_X8_readsPerson_29 rfl ?_
  refine r_bipush (q := 32) (n := 13) DM_X8_readsPerson_30 rfl (by decide) ?_
  refine r_bipush (q := 34) (n := 13) DM_X8_readsPerson_32 rfl (by decide) ?_
  refine r_aloadn (q := 35) DM_X8_readsPerson_34 rfl rfl ?_
  refine r_getR (q := 38) (r := 90) DM_X8_readsPerson_35 rfl fRX8_28 sh_83 rfl ?_
  refine r_iconst (q := 39) (n := 2) DM_X8_readsPerson_38 rfl ?_
  refine r_iald (q := 40) DM_X8_readsPerson_39 rfl sh_90 (by decide) ⟨by decide, ?_⟩
  refine r_bipush (q := 42) (n := 6) DM_X8_readsPerson_40 rfl (by decide) ?_
  have i3 := h.1
  replace h := h.2
  refine r_icge (q := 45) (t := 54) DM_X8_readsPerson_42 rfl (by decide) ⟨⟨i3, (by decide)⟩, fun cc => ?_, fun cc => ?_⟩
  · replace h := h.1 cc
    refine r_iconst (q := 55) (n := 0) DM_X8_readsPerson_54 rfl ?_
    refine r_imul (q := 56) DM_X8_readsPerson_55 rfl ?_
    refine r_iadd (q := 57) DM_X8_readsPerson_56 rfl ?_
    refine v_istoren (q := 58) (ls' := [some (.inr 83), some (.inl x1), some (.inl (13 + (13 * 0))), none, none, none]) DM_X8_readsPerson_57 rfl (by decide) rfl ?_
    refine r_iconst (q := 59) (n := 0) DM_X8_readsPerson_58 rfl ?_
    refine v_istoren (q := 60) (ls' := [some (.inr 83), some (.inl x1), some (.inl (13 + (13 * 0))), some (.inl 0), none, none]) DM_X8_readsPerson_59 rfl (by decide) rfl ?_
    exact h
  · replace h := h.2 cc
    refine r_aloadn (q := 46) DM_X8_readsPerson_45 rfl rfl ?_
    refine r_getR (q := 49) (r := 90) DM_X8_readsPerson_46 rfl fRX8_28 sh_83 rfl ?_
    refine r_iconst (q := 50) (n := 2) DM_X8_readsPerson_49 rfl ?_
    refine r_iald (q := 51) DM_X8_readsPerson_50 rfl sh_90 (by decide) ⟨by decide, ?_⟩
    refine r_goto (q := 55) DM_X8_readsPerson_51 (by decide) ?_
    refine r_imul (q := 56) DM_X8_readsPerson_55 rfl ?_
    refine r_iadd (q := 57) DM_X8_readsPerson_56 rfl ?_
    refine v_istoren (q := 58) (ls' := [some (.inr 83), some (.inl x1), some (.inl (13 + (13 * (μ1 90 2)))), none, none, none]) DM_X8_readsPerson_57 rfl (by decide) rfl ?_
    refine r_iconst (q := 59) (n := 0) DM_X8_readsPerson_58 rfl ?_
    refine v_istoren (q := 60) (ls' := [some (.inr 83), some (.inl x1), some (.inl (13 + (13 * (μ1 90 2)))), some (.inl 0), none, none]) DM_X8_readsPerson_59 rfl (by decide) rfl ?_
    exact h
set_option maxRecDepth 20000 in
theorem s_X8_readsPerson_60 {E : Ex} {μ : Mem} {Q : Option Vl → Mem → Prop} {x1 x2 x3 : Int}  (h : Cl E 1 M_X8_isName [.inr 83] μ (fun vv μ1 => ∃ v2, vv = some (.inl (bi v2)) ∧ (v2 = false → Gg E 4 M_X8_readsPerson 99 [some (.inr 83), some (.inl x1), some (.inl x2), some (.inl x3), none, none] [] μ1 Q) ∧ (v2 = true → inR x3 ∧ (x3 ≥ 4 → Gg E 4 M_X8_readsPerson 99 [some (.inr 83), some (.inl x1), some (.inl x2), some (.inl x3), none, none] [] μ1 Q) ∧ (¬ x3 ≥ 4 → (0 ≤ ((x2 + 4) + x3) ∧ ((x2 + 4) + x3) < 91) ∧ ∀ μ4 : Mem, μ4 = up μ1 90 ((x2 + 4) + x3) ((μ1 83 12) - 97) → Cl E 1 M_X8_advances [.inr 83] μ4 (fun vv μ6 => vv = none ∧ Gg E 4 M_X8_readsPerson 60 [some (.inr 83), some (.inl x1), some (.inl x2), some (.inl (x3 + 1)), none, none] [] μ6 Q))))) : Gg E 4 M_X8_readsPerson 60 [some (.inr 83), some (.inl x1), some (.inl x2), some (.inl x3), none, none] [] μ Q := by
  refine r_aloadn (q := 61) DM_X8_readsPerson_60 rfl rfl ?_
  refine r_callVi [] (q := 64) DM_X8_readsPerson_61 rfl kM_X8_isName lRX8_127 sh_83 rfl rfl (by decide) (Nat.le_of_ble_eq_true rfl) rfl (Cl.imp h (fun vv μ1 h => ?_))
  obtain ⟨v2, hv, h⟩ := h
  refine ⟨_, hv, ?_⟩
  refine r_bbeq (q := 67) (t := 99) DM_X8_readsPerson_64 rfl (by decide) ⟨fun cc => ?_, fun cc => ?_⟩
  · replace h := h.1 cc
    exact h
  · replace h := h.2 cc
    refine r_iloadn (q := 68) DM_X8_readsPerson_67 rfl rfl ?_
    refine r_iconst (q := 69) (n := 4) DM_X8_readsPerson_68 rfl ?_
    have i3 := h.1
    replace h := h.2
    refine r_icge (q := 72) (t := 99) DM_X8_readsPerson_69 rfl (by decide) ⟨⟨i3, (by decide)⟩, fun cc => ?_, fun cc => ?_⟩
    · replace h := h.1 cc
      exact h
    · replace h := h.2 cc
      refine r_aloadn (q := 73) DM_X8_readsPerson_72 rfl rfl ?_
      refine r_getR (q := 76) (r := 90) DM_X8_readsPerson_73 rfl fRX8_28 sh_83 rfl ?_
      refine r_iloadn (q := 77) DM_X8_readsPerson_76 rfl rfl ?_
      refine r_iconst (q := 78) (n := 4) DM_X8_readsPerson_77 rfl ?_
      refine r_iadd (q := 79) DM_X8_readsPerson_78 rfl ?_
      refine r_iloadn (q := 80) DM_X8_readsPerson_79 rfl rfl ?_
      refine r_iadd (q := 81) DM_X8_readsPerson_80 rfl ?_
      refine r_aloadn (q := 82) DM_X8_readsPerson_81 rfl rfl ?_
      refine v_getI (q := 85) (ji := 12) DM_X8_readsPerson_82 rfl fRX8_104 sh_83 rfl rfl ?_
      refine r_bipush (q := 87) (n := 97) DM_X8_readsPerson_85 rfl (by decide) ?_
      refine r_isub (q := 88) DM_X8_readsPerson_87 rfl ?_
      refine v_iast (q := 89) DM_X8_readsPerson_88 rfl sh_90 (by decide) ⟨h.1, fun μ4 e4 => ?_⟩
      have i5 := h.1
      replace h := h.2 μ4 e4
      refine v_iinc (q := 92) (ls' := [some (.inr 83), some (.inl x1), some (.inl x2), some (.inl (x3 + 1)), none, none]) DM_X8_readsPerson_89 rfl rfl (by decide) rfl ?_
      refine r_aloadn (q := 93) DM_X8_readsPerson_92 rfl rfl ?_
      refine r_callVv [] (q := 96) DM_X8_readsPerson_93 rfl kM_X8_advances lRX8_120 sh_83 rfl rfl (by decide) (Nat.le_of_ble_eq_true rfl) rfl (Cl.imp h (fun vv μ6 h => ?_))
      obtain ⟨hv, h⟩ := h
      refine ⟨hv, ?_⟩
      refine r_goto (q := 60) DM_X8_readsPerson_96 (by decide) ?_
      exact h
set_option maxRecDepth 20000 in
theorem s_X8_readsPerson_99 {E : Ex} {μ : Mem} {Q : Option Vl → Mem → Prop} {x1 x2 x3 : Int}  (h : inR x3 ∧ (x3 ≤ 0 → Cl E 1 M_X8_takes2 [.inr 83, .inl 0] μ (fun vv μ2 => vv = none ∧ Cl E 3 M_X8_figure [.inr 83, .inl 1, .inl 30] μ2 (fun vv μ4 => ∃ v5, vv = some (.inl v5) ∧ inR (μ4 83 11) ∧ ((μ4 83 11) ≠ 3 → Gg E 4 M_X8_readsPerson 135 [some (.inr 83), some (.inl x1), some (.inl x2), some (.inl x3), some (.inl v5), none] [.inl 0, .inr 83] μ4 Q) ∧ ((μ4 83 11) = 3 → Gg E 4 M_X8_readsPerson 135 [some (.inr 83), some (.inl x1), some (.inl x2), some (.inl x3), some (.inl v5), none] [.inl 1, .inr 83] μ4 Q)))) ∧ (¬ x3 ≤ 0 → Cl E 1 M_X8_takes2 [.inr 83, .inl 1] μ (fun vv μ7 => vv = none ∧ Cl E 3 M_X8_figure [.inr 83, .inl 1, .inl 30] μ7 (fun vv μ9 => ∃ v10, vv = some (.inl v10) ∧ inR (μ9 83 11) ∧ ((μ9 83 11) ≠ 3 → Gg E 4 M_X8_readsPerson 135 [some (.inr 83), some (.inl x1), some (.inl x2), some (.inl x3), some (.inl v10), none] [.inl 0, .inr 83] μ9 Q) ∧ ((μ9 83 11) = 3 → Gg E 4 M_X8_readsPerson 135 [some (.inr 83), some (.inl x1), some (.inl x2), some (.inl x3), some (.inl v10), none] [.inl 1, .inr 83] μ9 Q))))) : Gg E 4 M_X8_readsPerson 99 [some (.inr 83), some (.inl x1), some (.inl x2), some (.inl x3), none, none] [] μ Q := by
  refine r_aloadn (q := 100) DM_X8_readsPerson_99 rfl rfl ?_
  refine r_iloadn (q := 101) DM_X8_readsPerson_100 rfl rfl ?_
  have i1 := h.1
  replace h := h.2
  refine r_ifle (q := 104) (t := 108) DM_X8_readsPerson_101 rfl (by decide) ⟨i1, fun cc => ?_, fun cc => ?_⟩
  · replace h := h.1 cc
    refine r_iconst (q := 109) (n := 0) DM_X8_readsPerson_108 rfl ?_
    refine r_callVv [.inl 0] (q := 112) DM_X8_readsPerson_109 rfl kM_X8_takes2 lRX8_137 sh_83 rfl rfl (by decide) (Nat.le_of_ble_eq_true rfl) rfl (Cl.imp h (fun vv μ2 h => ?_))
    obtain ⟨hv, h⟩ := h
    refine ⟨hv, ?_⟩
    refine r_aloadn (q := 113) DM_X8_readsPerson_112 rfl rfl ?_
    refine r_iconst (q := 114) (n := 1) DM_X8_readsPerson_113 rfl ?_
    refine r_bipush (q := 116) (n := 30) DM_X8_readsPerson_114 rfl (by decide) ?_
    refine r_callVi [.inl 1, .inl 30] (q := 119) DM_X8_readsPerson_116 rfl kM_X8_figure lRX8_141 sh_83 rfl rfl (by decide) (Nat.le_of_ble_eq_true rfl) rfl (Cl.imp h (fun vv μ4 h => ?_))
    obtain ⟨v5, hv, h⟩ := h
    refine ⟨v5, hv, ?_⟩
    refine v_istore (q := 121) (ls' := [some (.inr 83), some (.inl x1), some (.inl x2), some (.inl x3), some (.inl v5), none]) DM_X8_readsPerson_119 rfl (by decide) rfl ?_
    refine r_aloadn (q := 122) DM_X8_readsPerson_121 rfl rfl ?_
    refine r_aloadn (q := 123) DM_X8_readsPerson_122 rfl rfl ?_
    refine v_getI (q := 126) (ji := 11) DM_X8_readsPerson_123 rfl fRX8_107 sh_83 rfl rfl ?_
    refine r_iconst (q := 127) (n := 3) DM_X8_readsPerson_126 rfl ?_
    have i6 := h.1
    replace h := h.2
    refine r_icne (q := 130) (t := 134) DM_X8_readsPerson_127 rfl (by decide) ⟨⟨i6, (by decide)⟩, fun cc => ?_, fun cc => ?_⟩
    · replace h := h.1 cc
      refine r_iconst (q := 135) (n := 0) DM_X8_readsPerson_134 rfl ?_
      exact h
    · replace h := h.2 cc
      refine r_iconst (q := 131) (n := 1) DM_X8_readsPerson_130 rfl ?_
      refine r_goto (q := 135) DM_X8_readsPerson_131 (by decide) ?_
      exact h
  · replace h := h.2 cc
    refine r_iconst (q := 105) (n := 1) DM_X8_readsPerson_104 rfl ?_
    refine r_goto (q := 109) DM_X8_readsPerson_105 (by decide) ?_
    refine r_callVv [.inl 1] (q := 112) DM_X8_readsPerson_109 rfl kM_X8_takes2 lRX8_137 sh_83 rfl rfl (by decide) (Nat.le_of_ble_eq_true rfl) rfl (Cl.imp h (fun vv μ7 h => ?_))
    obtain ⟨hv, h⟩ := h
    refine ⟨hv, ?_⟩
    refine r_aloadn (q := 113) DM_X8_readsPerson_112 rfl rfl ?_
    refine r_iconst (q := 114) (n := 1) DM_X8_readsPerson_113 rfl ?_
    refine r_bipush (q := 116) (n := 30) DM_X8_readsPerson_114 rfl (by decide) ?_
    refine r_callVi [.inl 1, .inl 30] (q := 119) DM_X8_readsPerson_116 rfl kM_X8_figure lRX8_141 sh_83 rfl rfl (by decide) (Nat.le_of_ble_eq_true rfl) rfl (Cl.imp h (fun vv μ9 h => ?_))
    obtain ⟨v10, hv, h⟩ := h
    refine ⟨v10, hv, ?_⟩
    refine v_istore (q := 121) (ls' := [some (.inr 83), some (.inl x1), some (.inl x2), some (.inl x3), some (.inl v10), none]) DM_X8_readsPerson_119 rfl (by decide) rfl ?_
    refine r_aloadn (q := 122) DM_X8_readsPerson_121 rfl rfl ?_
    refine r_aloadn (q := 123) DM_X8_readsPerson_122 rfl rfl ?_
    refine v_getI (q := 126) (ji := 11) DM_X8_readsPerson_123 rfl fRX8_107 sh_83 rfl rfl ?_
    refine r_iconst (q := 127) (n := 3) DM_X8_readsPerson_126 rfl ?_
    have i11 := h.1
    replace h := h.2
    refine r_icne (q := 130) (t := 134) DM_X8_readsPerson_127 rfl (by decide) ⟨⟨i11, (by decide)⟩, fun cc => ?_, fun cc => ?_⟩
    · replace h := h.1 cc
      refine r_iconst (q := 135) (n := 0) DM_X8_readsPerson_134 rfl ?_
      exact h
    · replace h := h.2 cc
      refine r_iconst (q := 131) (n := 1) DM_X8_readsPerson_130 rfl ?_
      refine r_goto (q := 135) DM_X8_readsPerson_131 (by decide) ?_
      exact h
set_option maxRecDepth 20000 in
theorem s_X8_readsPerson_135 {E : Ex} {μ : Mem} {Q : Option Vl → Mem → Prop} {x1 x2 x3 x4 y0 : Int}  (h : Cl E 2 M_X8_takes [.inr 83, .inl y0, .inl 1] μ (fun vv μ1 => ∃ v2, vv = some (.inl v2) ∧ Cl E 3 M_X8_figure [.inr 83, .inl 1, .inl 99] μ1 (fun vv μ3 => ∃ v4, vv = some (.inl v4) ∧ inR (μ3 83 11) ∧ ((μ3 83 11) ≠ 4 → Gg E 4 M_X8_readsPerson 163 [some (.inr 83), some (.inl x1), some (.inl x2), some (.inl x3), some (.inl x4), some (.inl v4)] [.inl 0, .inr 83] μ3 Q) ∧ ((μ3 83 11) = 4 → Gg E 4 M_X8_readsPerson 163 [some (.inr 83), some (.inl x1), some (.inl x2), some (.inl x3), some (.inl x4), some (.inl v4)] [.inl 1, .inr 83] μ3 Q)))) : Gg E 4 M_X8_readsPerson 135 [some (.inr 83), some (.inl x1), some (.inl x2), some (.inl x3), some (.inl x4), none] [.inl y0, .inr 83] μ Q := by
  refine r_iconst (q := 136) (n := 1) DM_X8_readsPerson_135 rfl ?_
  refine r_callVi [.inl y0, .inl 1] (q := 139) DM_X8_readsPerson_136 rfl kM_X8_takes lRX8_123 sh_83 rfl rfl (by decide) (Nat.le_of_ble_eq_true rfl) rfl (Cl.imp h (fun vv μ1 h => ?_))
  obtain ⟨v2, hv, h⟩ := h
  refine ⟨v2, hv, ?_⟩
  refine r_pop (q := 140) DM_X8_readsPerson_139 rfl ?_
  refine r_aloadn (q := 141) DM_X8_readsPerson_140 rfl rfl ?_
  refine r_iconst (q := 142) (n := 1) DM_X8_readsPerson_141 rfl ?_
  refine r_bipush (q := 144) (n := 99) DM_X8_readsPerson_142 rfl (by decide) ?_
  refine r_callVi [.inl 1, .inl 99] (q := 147) DM_X8_readsPerson_144 rfl kM_X8_figure lRX8_141 sh_83 rfl rfl (by decide) (Nat.le_of_ble_eq_true rfl) rfl (Cl.imp h (fun vv μ3 h => ?_))
  obtain ⟨v4, hv, h⟩ := h
  refine ⟨v4, hv, ?_⟩
  refine v_istore (q := 149) (ls' := [some (.inr 83), some (.inl x1), some (.inl x2), some (.inl x3), some (.inl x4), some (.inl v4)]) DM_X8_readsPerson_147 rfl (by decide) rfl ?_
  refine r_aloadn (q := 150) DM_X8_readsPerson_149 rfl rfl ?_
  refine r_aloadn (q := 151) DM_X8_readsPerson_150 rfl rfl ?_
  refine v_getI (q := 154) (ji := 11) DM_X8_readsPerson_151 rfl fRX8_107 sh_83 rfl rfl ?_
  refine r_iconst (q := 155) (n := 4) DM_X8_readsPerson_154 rfl ?_
  have i5 := h.1
  replace h := h.2
  refine r_icne (q := 158) (t := 162) DM_X8_readsPerson_155 rfl (by decide) ⟨⟨i5, (by decide)⟩, fun cc => ?_, fun cc => ?_⟩
  · replace h := h.1 cc
    refine r_iconst (q := 163) (n := 0) DM_X8_readsPerson_162 rfl ?_
    exact h
  · replace h := h.2 cc
    refine r_iconst (q := 159) (n := 1) DM_X8_readsPerson_158 rfl ?_
    refine r_goto (q := 163) DM_X8_readsPerson_159 (by decide) ?_
    exact h
set_option maxRecDepth 20000 in
theorem s_X8_readsPerson_163 {E : Ex} {μ : Mem} {Q : Option Vl → Mem → Prop} {x1 x2 x3 x4 x5 y0 : Int}  (h : Cl E 2 M_X8_takes [.inr 83, .inl y0, .inl 1] μ (fun vv μ1 => ∃ v2, vv = some (.inl v2) ∧ Cl E 0 M_X8_isWell [.inr 83] μ1 (fun vv μ3 => ∃ v4, vv = some (.inl (bi v4)) ∧ (v4 = false → Q none μ3) ∧ (v4 = true → (0 ≤ x2 ∧ x2 < 91) ∧ ∀ μ5 : Mem, μ5 = up μ3 90 x2 x1 → (0 ≤ (x2 + 1) ∧ (x2 + 1) < 91) ∧ ∀ μ7 : Mem, μ7 = up μ5 90 (x2 + 1) x4 → (0 ≤ (x2 + 2) ∧ (x2 + 2) < 91) ∧ ∀ μ9 : Mem, μ9 = up μ7 90 (x2 + 2) x5 → (0 ≤ (x2 + 3) ∧ (x2 + 3) < 91) ∧ ∀ μ11 : Mem, μ11 = up μ9 90 (x2 + 3) x3 → (0 ≤ (x2 + 8) ∧ (x2 + 8) < 91) ∧ ∀ μ13 : Mem, μ13 = up μ11 90 (x2 + 8) 0 → (0 ≤ (x2 + 9) ∧ (x2 + 9) < 91) ∧ ∀ μ15 : Mem, μ15 = up μ13 90 (x2 + 9) 0 → (0 ≤ (x2 + 10) ∧ (x2 + 10) < 91) ∧ ∀ μ17 : Mem, μ17 = up μ15 90 (x2 + 10) (-1000000) → (0 ≤ (x2 + 11) ∧ (x2 + 11) < 91) ∧ ∀ μ19 : Mem, μ19 = up μ17 90 (x2 + 11) (-1000000) → (0 ≤ (x2 + 12) ∧ (x2 + 12) < 91) ∧ ∀ μ21 : Mem, μ21 = up μ19 90 (x2 + 12) (-1000000) → ∀ μ23 : Mem, μ23 = up μ21 90 2 ((μ21 90 2) + 1) → Q none μ23)))) : Gg E 4 M_X8_readsPerson 163 [some (.inr 83), some (.inl x1), some (.inl x2), some (.inl x3), some (.inl x4), some (.inl x5)] [.inl y0, .inr 83] μ Q := by
  refine r_iconst (q := 164) (n := 1) DM_X8_readsPerson_163 rfl ?_
  refine r_callVi [.inl y0, .inl 1] (q := 167) DM_X8_readsPerson_164 rfl kM_X8_takes lRX8_123 sh_83 rfl rfl (by decide) (Nat.le_of_ble_eq_true rfl) rfl (Cl.imp h (fun vv μ1 h => ?_))
  obtain ⟨v2, hv, h⟩ := h
  refine ⟨v2, hv, ?_⟩
  refine r_pop (q := 168) DM_X8_readsPerson_167 rfl ?_
  refine r_aloadn (q := 169) DM_X8_readsPerson_168 rfl rfl ?_
  refine r_callVi [] (q := 172) DM_X8_readsPerson_169 rfl kM_X8_isWell lRX8_113 sh_83 rfl rfl (by decide) (Nat.le_of_ble_eq_true rfl) rfl (Cl.imp h (fun vv μ3 h => ?_))
  obtain ⟨v4, hv, h⟩ := h
  refine ⟨_, hv, ?_⟩
  refine r_bbeq (q := 175) (t := 274) DM_X8_readsPerson_172 rfl (by decide) ⟨fun cc => ?_, fun cc => ?_⟩
  · replace h := h.1 cc
    exact r_ret (v := none) ⟨DM_X8_readsPerson_274, rfl⟩ h
  · replace h := h.2 cc
    refine r_aloadn (q := 176) DM_X8_readsPerson_175 rfl rfl ?_
    refine r_getR (q := 179) (r := 90) DM_X8_readsPerson_176 rfl fRX8_28 sh_83 rfl ?_
    refine r_iloadn (q := 180) DM_X8_readsPerson_179 rfl rfl ?_
    refine r_iloadn (q := 181) DM_X8_readsPerson_180 rfl rfl ?_
    refine v_iast (q := 182) DM_X8_readsPerson_181 rfl sh_90 (by decide) ⟨h.1, fun μ5 e5 => ?_⟩
    have i6 := h.1
    replace h := h.2 μ5 e5
    refine r_aloadn (q := 183) DM_X8_readsPerson_182 rfl rfl ?_
    refine r_getR (q := 186) (r := 90) DM_X8_readsPerson_183 rfl fRX8_28 sh_83 rfl ?_
    refine r_iloadn (q := 187) DM_X8_readsPerson_186 rfl rfl ?_
    refine r_iconst (q := 188) (n := 1) DM_X8_readsPerson_187 rfl ?_
    refine r_iadd (q := 189) DM_X8_readsPerson_188 rfl ?_
    refine r_iload (q := 191) DM_X8_readsPerson_189 rfl rfl ?_
    refine v_iast (q := 192) DM_X8_readsPerson_191 rfl sh_90 (by decide) ⟨h.1, fun μ7 e7 => ?_⟩
    have i8 := h.1
    replace h := h.2 μ7 e7
    refine r_aloadn (q := 193) DM_X8_readsPerson_192 rfl rfl ?_
    refine r_getR (q := 196) (r := 90) DM_X8_readsPerson_193 rfl fRX8_28 sh_83 rfl ?_
    refine r_iloadn (q := 197) DM_X8_readsPerson_196 rfl rfl ?_
    refine r_iconst (q := 198) (n := 2) DM_X8_readsPerson_197 rfl ?_
    refine r_iadd (q := 199) DM_X8_readsPerson_198 rfl ?_
    refine r_iload (q := 201) DM_X8_readsPerson_199 rfl rfl ?_
    refine v_iast (q := 202) DM_X8_readsPerson_201 rfl sh_90 (by decide) ⟨h.1, fun μ9 e9 => ?_⟩
    have i10 := h.1
    replace h := h.2 μ9 e9
    refine r_aloadn (q := 203) DM_X8_readsPerson_202 rfl rfl ?_
    refine r_getR (q := 206) (r := 90) DM_X8_readsPerson_203 rfl fRX8_28 sh_83 rfl ?_
    refine r_iloadn (q := 207) DM_X8_readsPerson_206 rfl rfl ?_
    refine r_iconst (q := 208) (n := 3) DM_X8_readsPerson_207 rfl ?_
    refine r_iadd (q := 209) DM_X8_readsPerson_208 rfl ?_
    refine r_iloadn (q := 210) DM_X8_readsPerson_209 rfl rfl ?_
    refine v_iast (q := 211) DM_X8_readsPerson_210 rfl sh_90 (by decide) ⟨h.1, fun μ11 e11 => ?_⟩
    have i12 := h.1
    replace h := h.2 μ11 e11
    refine r_aloadn (q := 212) DM_X8_readsPerson_211 rfl rfl ?_
    refine r_getR (q := 215) (r := 90) DM_X8_readsPerson_212 rfl fRX8_28 sh_83 rfl ?_
    refine r_iloadn (q := 216) DM_X8_readsPerson_215 rfl rfl ?_
    refine r_bipush (q := 218) (n := 8) DM_X8_readsPerson_216 rfl (by decide) ?_
    refine r_iadd (q := 219) DM_X8_readsPerson_218 rfl ?_
    refine r_iconst (q := 220) (n := 0) DM_X8_readsPerson_219 rfl ?_
    refine v_iast (q := 221) DM_X8_readsPerson_220 rfl sh_90 (by decide) ⟨h.1, fun μ13 e13 => ?_⟩
    have i14 := h.1
    replace h := h.2 μ13 e13
    refine r_aloadn (q := 222) DM_X8_readsPerson_221 rfl rfl ?_
    refine r_getR (q := 225) (r := 90) DM_X8_readsPerson_222 rfl fRX8_28 sh_83 rfl ?_
    refine r_iloadn (q := 226) DM_X8_readsPerson_225 rfl rfl ?_
    refine r_bipush (q := 228) (n := 9) DM_X8_readsPerson_226 rfl (by decide) ?_
    refine r_iadd (q := 229) DM_X8_readsPerson_228 rfl ?_
    refine r_iconst (q := 230) (n := 0) DM_X8_readsPerson_229 rfl ?_
    refine v_iast (q := 231) DM_X8_readsPerson_230 rfl sh_90 (by decide) ⟨h.1, fun μ15 e15 => ?_⟩
    have i16 := h.1
    replace h := h.2 μ15 e15
    refine r_aloadn (q := 232) DM_X8_readsPerson_231 rfl rfl ?_
    refine r_getR (q := 235) (r := 90) DM_X8_readsPerson_232 rfl fRX8_28 sh_83 rfl ?_
    refine r_iloadn (q := 236) DM_X8_readsPerson_235 rfl rfl ?_
    refine r_bipush (q := 238) (n := 10) DM_X8_readsPerson_236 rfl (by decide) ?_
    refine r_iadd (q := 239) DM_X8_readsPerson_238 rfl ?_
    refine r_ldc (q := 241) (n := (-1000000)) DM_X8_readsPerson_239 rfl nRX8_59 ?_
    refine v_iast (q := 242) DM_X8_readsPerson_241 rfl sh_90 (by decide) ⟨h.1, fun μ17 e17 => ?_⟩
    have i18 := h.1
    replace h := h.2 μ17 e17
    refine r_aloadn (q := 243) DM_X8_readsPerson_242 rfl rfl ?_
    refine r_getR (q := 246) (r := 90) DM_X8_readsPerson_243 rfl fRX8_28 sh_83 rfl ?_
    refine r_iloadn (q := 247) DM_X8_readsPerson_246 rfl rfl ?_
    refine r_bipush (q := 249) (n := 11) DM_X8_readsPerson_247 rfl (by decide) ?_
    refine r_iadd (q := 250) DM_X8_readsPerson_249 rfl ?_
    refine r_ldc (q := 252) (n := (-1000000)) DM_X8_readsPerson_250 rfl nRX8_59 ?_
    refine v_iast (q := 253) DM_X8_readsPerson_252 rfl sh_90 (by decide) ⟨h.1, fun μ19 e19 => ?_⟩
    have i20 := h.1
    replace h := h.2 μ19 e19
    refine r_aloadn (q := 254) DM_X8_readsPerson_253 rfl rfl ?_
    refine r_getR (q := 257) (r := 90) DM_X8_readsPerson_254 rfl fRX8_28 sh_83 rfl ?_
    refine r_iloadn (q := 258) DM_X8_readsPerson_257 rfl rfl ?_
    refine r_bipush (q := 260) (n := 12) DM_X8_readsPerson_258 rfl (by decide) ?_
    refine r_iadd (q := 261) DM_X8_readsPerson_260 rfl ?_
    refine r_ldc (q := 263) (n := (-1000000)) DM_X8_readsPerson_261 rfl nRX8_59 ?_
    refine v_iast (q := 264) DM_X8_readsPerson_263 rfl sh_90 (by decide) ⟨h.1, fun μ21 e21 => ?_⟩
    have i22 := h.1
    replace h := h.2 μ21 e21
    refine r_aloadn (q := 265) DM_X8_readsPerson_264 rfl rfl ?_
    refine r_getR (q := 268) (r := 90) DM_X8_readsPerson_265 rfl fRX8_28 sh_83 rfl ?_
    refine r_iconst (q := 269) (n := 2) DM_X8_readsPerson_268 rfl ?_
    refine r_dup2 (q := 270) DM_X8_readsPerson_269 rfl ?_
    refine r_iald (q := 271) DM_X8_readsPerson_270 rfl sh_90 (by decide) ⟨by decide, ?_⟩
    refine r_iconst (q := 272) (n := 1) DM_X8_readsPerson_271 rfl ?_
    refine r_iadd (q := 273) DM_X8_readsPerson_272 rfl ?_
    refine v_iast (q := 274) DM_X8_readsPerson_273 rfl sh_90 (by decide) ⟨by decide, fun μ23 e23 => ?_⟩
    replace h := h μ23 e23
    exact r_ret (v := none) ⟨DM_X8_readsPerson_274, rfl⟩ h
set_option maxRecDepth 20000 in
theorem s_X8_court {E : Ex} {μ : Mem} {Q : Option Vl → Mem → Prop}  (h : Gg E 5 M_X8_court 2 [some (.inr 83), some (.inl 0)] [] μ Q) : Cl E 5 M_X8_court [.inr 83] μ Q := by
  show Gg E 5 M_X8_court 0 [some (.inr 83), none] [] μ Q
  refine r_iconst (q := 1) (n := 0) DM_X8_court_0 rfl ?_
  refine v_istoren (q := 2) (ls' := [some (.inr 83), some (.inl 0)]) DM_X8_court_1 rfl (by decide) rfl ?_
  exact h
set_option maxRecDepth 20000 in
theorem s_X8_court_2 {E : Ex} {μ : Mem} {Q : Option Vl → Mem → Prop} {x1 : Int}  (h : inR x1 ∧ (x1 ≥ 91 → ∀ μ2 : Mem, μ2 = up μ 83 9 0 → ∀ μ3 : Mem, μ3 = up μ2 83 8 (-1) → Cl E 1 M_X8_advances [.inr 83] μ3 (fun vv μ4 => vv = none ∧ inR (μ4 83 11) ∧ ((μ4 83 11) ≠ 1 → Gg E 5 M_X8_court 58 [some (.inr 83), some (.inl x1)] [.inl 0, .inr 83] μ4 Q) ∧ ((μ4 83 11) = 1 → inR (μ4 83 12) ∧ ((μ4 83 12) ≠ 119 → Gg E 5 M_X8_court 58 [some (.inr 83), some (.inl x1)] [.inl 0, .inr 83] μ4 Q) ∧ ((μ4 83 12) = 119 → Gg E 5 M_X8_court 58 [some (.inr 83), some (.inl x1)] [.inl 1, .inr 83] μ4 Q)))) ∧ (¬ x1 ≥ 91 → (0 ≤ x1 ∧ x1 < 91) ∧ ∀ μ8 : Mem, μ8 = up μ 90 x1 0 → Gg E 5 M_X8_court 2 [some (.inr 83), some (.inl (x1 + 1))] [] μ8 Q)) : Gg E 5 M_X8_court 2 [some (.inr 83), some (.inl x1)] [] μ Q := by
  refine r_iloadn (q := 3) DM_X8_court_2 rfl rfl ?_
  refine r_bipush (q := 5) (n := 91) DM_X8_court_3 rfl (by decide) ?_
  have i1 := h.1
  replace h := h.2
  refine r_icge (q := 8) (t := 21) DM_X8_court_5 rfl (by decide) ⟨⟨i1, (by decide)⟩, fun cc => ?_, fun cc => ?_⟩
  · replace h := h.1 cc
    refine r_aloadn (q := 22) DM_X8_court_21 rfl rfl ?_
    refine r_iconst (q := 23) (n := 0) DM_X8_court_22 rfl ?_
    refine v_put (q := 26) (ji := 9) DM_X8_court_23 rfl pfRX8_95 sh_83 rfl rfl (Or.inl rfl) (fun μ2 e2 => ?_)
    replace h := h μ2 e2
    refine r_aloadn (q := 27) DM_X8_court_26 rfl rfl ?_
    refine r_iconst (q := 28) (n := (-1)) DM_X8_court_27 rfl ?_
    refine v_put (q := 31) (ji := 8) DM_X8_court_28 rfl pfRX8_110 sh_83 rfl rfl (Or.inl rfl) (fun μ3 e3 => ?_)
    replace h := h μ3 e3
    refine r_aloadn (q := 32) DM_X8_court_31 rfl rfl ?_
    refine r_callVv [] (q := 35) DM_X8_court_32 rfl kM_X8_advances lRX8_120 sh_83 rfl rfl (by decide) (Nat.le_of_ble_eq_true rfl) rfl (Cl.imp h (fun vv μ4 h => ?_))
    obtain ⟨hv, h⟩ := h
    refine ⟨hv, ?_⟩
    refine r_aloadn (q := 36) DM_X8_court_35 rfl rfl ?_
    refine r_aloadn (q := 37) DM_X8_court_36 rfl rfl ?_
    refine v_getI (q := 40) (ji := 11) DM_X8_court_37 rfl fRX8_107 sh_83 rfl rfl ?_
    refine r_iconst (q := 41) (n := 1) DM_X8_court_40 rfl ?_
    have i6 := h.1
    replace h := h.2
    refine r_icne (q := 44) (t := 57) DM_X8_court_41 rfl (by decide) ⟨⟨i6, (by decide)⟩, fun cc => ?_, fun cc => ?_⟩
    · replace h := h.1 cc
      refine r_iconst (q := 58) (n := 0) DM_X8_court_57 rfl ?_
      exact h
    · replace h := h.2 cc
      refine r_aloadn (q := 45) DM_X8_court_44 rfl rfl ?_
      refine v_getI (q := 48) (ji := 12) DM_X8_court_45 rfl fRX8_104 sh_83 rfl rfl ?_
      refine r_bipush (q := 50) (n := 119) DM_X8_court_48 rfl (by decide) ?_
      have i7 := h.1
      replace h := h.2
      refine r_icne (q := 53) (t := 57) DM_X8_court_50 rfl (by decide) ⟨⟨i7, (by decide)⟩, fun cc => ?_, fun cc => ?_⟩
      · replace h := h.1 cc
        refine r_iconst (q := 58) (n := 0) DM_X8_court_57 rfl ?_
        exact h
      · replace h := h.2 cc
        refine r_iconst (q := 54) (n := 1) DM_X8_court_53 rfl ?_
        refine r_goto (q := 58) DM_X8_court_54 (by decide) ?_
        exact h
  · replace h := h.2 cc
    refine r_aloadn (q := 9) DM_X8_court_8 rfl rfl ?_
    refine r_getR (q := 12) (r := 90) DM_X8_court_9 rfl fRX8_28 sh_83 rfl ?_
    refine r_iloadn (q := 13) DM_X8_court_12 rfl rfl ?_
    refine r_iconst (q := 14) (n := 0) DM_X8_court_13 rfl ?_
    refine v_iast (q := 15) DM_X8_court_14 rfl sh_90 (by decide) ⟨h.1, fun μ8 e8 => ?_⟩
    have i9 := h.1
    replace h := h.2 μ8 e8
    refine v_iinc (q := 18) (ls' := [some (.inr 83), some (.inl (x1 + 1))]) DM_X8_court_15 rfl rfl (by decide) rfl ?_
    refine r_goto (q := 2) DM_X8_court_18 (by decide) ?_
    exact h
set_option maxRecDepth 20000 in
theorem s_X8_court_58 {E : Ex} {μ : Mem} {Q : Option Vl → Mem → Prop} {x1 y0 : Int}  (h : Cl E 2 M_X8_takes [.inr 83, .inl y0, .inl 1] μ (fun vv μ1 => ∃ v2, vv = some (.inl v2) ∧ Cl E 3 M_X8_figure [.inr 83, .inl 1, .inl 4] μ1 (fun vv μ3 => ∃ v4, vv = some (.inl v4) ∧ ∀ μ5 : Mem, μ5 = up μ3 90 0 v4 → inR (μ5 83 11) ∧ ((μ5 83 11) ≠ 3 → Gg E 5 M_X8_court 89 [some (.inr 83), some (.inl x1)] [.inl 0, .inr 83] μ5 Q) ∧ ((μ5 83 11) = 3 → Gg E 5 M_X8_court 89 [some (.inr 83), some (.inl x1)] [.inl 1, .inr 83] μ5 Q)))) : Gg E 5 M_X8_court 58 [some (.inr 83), some (.inl x1)] [.inl y0, .inr 83] μ Q := by
  refine r_iconst (q := 59) (n := 1) DM_X8_court_58 rfl ?_
  refine r_callVi [.inl y0, .inl 1] (q := 62) DM_X8_court_59 rfl kM_X8_takes lRX8_123 sh_83 rfl rfl (by decide) (Nat.le_of_ble_eq_true rfl) rfl (Cl.imp h (fun vv μ1 h => ?_))
  obtain ⟨v2, hv, h⟩ := h
  refine ⟨v2, hv, ?_⟩
  refine r_pop (q := 63) DM_X8_court_62 rfl ?_
  refine r_aloadn (q := 64) DM_X8_court_63 rfl rfl ?_
  refine r_getR (q := 67) (r := 90) DM_X8_court_64 rfl fRX8_28 sh_83 rfl ?_
  refine r_iconst (q := 68) (n := 0) DM_X8_court_67 rfl ?_
  refine r_aloadn (q := 69) DM_X8_court_68 rfl rfl ?_
  refine r_iconst (q := 70) (n := 1) DM_X8_court_69 rfl ?_
  refine r_iconst (q := 71) (n := 4) DM_X8_court_70 rfl ?_
  refine r_callVi [.inl 1, .inl 4] (q := 74) DM_X8_court_71 rfl kM_X8_figure lRX8_141 sh_83 rfl rfl (by decide) (Nat.le_of_ble_eq_true rfl) rfl (Cl.imp h (fun vv μ3 h => ?_))
  obtain ⟨v4, hv, h⟩ := h
  refine ⟨v4, hv, ?_⟩
  refine v_iast (q := 75) DM_X8_court_74 rfl sh_90 (by decide) ⟨by decide, fun μ5 e5 => ?_⟩
  replace h := h μ5 e5
  refine r_aloadn (q := 76) DM_X8_court_75 rfl rfl ?_
  refine r_aloadn (q := 77) DM_X8_court_76 rfl rfl ?_
  refine v_getI (q := 80) (ji := 11) DM_X8_court_77 rfl fRX8_107 sh_83 rfl rfl ?_
  refine r_iconst (q := 81) (n := 3) DM_X8_court_80 rfl ?_
  have i6 := h.1
  replace h := h.2
  refine r_icne (q := 84) (t := 88) DM_X8_court_81 rfl (by decide) ⟨⟨i6, (by decide)⟩, fun cc => ?_, fun cc => ?_⟩
  · replace h := h.1 cc
    refine r_iconst (q := 89) (n := 0) DM_X8_court_88 rfl ?_
    exact h
  · replace h := h.2 cc
    refine r_iconst (q := 85) (n := 1) DM_X8_court_84 rfl ?_
    refine r_goto (q := 89) DM_X8_court_85 (by decide) ?_
    exact h
set_option maxRecDepth 20000 in
theorem s_X8_court_89 {E : Ex} {μ : Mem} {Q : Option Vl → Mem → Prop} {x1 y0 : Int}  (h : Cl E 2 M_X8_takes [.inr 83, .inl y0, .inl 1] μ (fun vv μ1 => ∃ v2, vv = some (.inl v2) ∧ Cl E 3 M_X8_figure [.inr 83, .inl 0, .inl 30] μ1 (fun vv μ3 => ∃ v4, vv = some (.inl v4) ∧ ∀ μ5 : Mem, μ5 = up μ3 90 1 v4 → inR (μ5 83 11) ∧ ((μ5 83 11) ≠ 4 → Cl E 2 M_X8_takes [.inr 83, .inl 0, .inl 1] μ5 (fun vv μ7 => ∃ v8, vv = some (.inl v8) ∧ Cl E 3 M_X8_readsOrder [.inr 83] μ7 (fun vv μ9 => vv = none ∧ Gg E 5 M_X8_court 130 [some (.inr 83), some (.inl x1)] [] μ9 Q))) ∧ ((μ5 83 11) = 4 → Cl E 2 M_X8_takes [.inr 83, .inl 1, .inl 1] μ5 (fun vv μ11 => ∃ v12, vv = some (.inl v12) ∧ Cl E 3 M_X8_readsOrder [.inr 83] μ11 (fun vv μ13 => vv = none ∧ Gg E 5 M_X8_court 130 [some (.inr 83), some (.inl x1)] [] μ13 Q)))))) : Gg E 5 M_X8_court 89 [some (.inr 83), some (.inl x1)] [.inl y0, .inr 83] μ Q := by
  refine r_iconst (q := 90) (n := 1) DM_X8_court_89 rfl ?_
  refine r_callVi [.inl y0, .inl 1] (q := 93) DM_X8_court_90 rfl kM_X8_takes lRX8_123 sh_83 rfl rfl (by decide) (Nat.le_of_ble_eq_true rfl) rfl (Cl.imp h (fun vv μ1 h => ?_))
  obtain ⟨v2, hv, h⟩ := h
  refine ⟨v2, hv, ?_⟩
  refine r_pop (q := 94) DM_X8_court_93 rfl ?_
  refine r_aloadn (q := 95) DM_X8_court_94 rfl rfl ?_
  refine r_getR (q := 98) (r := 90) DM_X8_court_95 rfl fRX8_28 sh_83 rfl ?_
  refine r_iconst (q := 99) (n := 1) DM_X8_court_98 rfl ?_
  refine r_aloadn (q := 100) DM_X8_court_99 rfl rfl ?_
  refine r_iconst (q := 101) (n := 0) DM_X8_court_100 rfl ?_
  refine r_bipush (q := 103) (n := 30) DM_X8_court_101 rfl (by decide) ?_
  refine r_callVi [.inl 0, .inl 30] (q := 106) DM_X8_court_103 rfl kM_X8_figure lRX8_141 sh_83 rfl rfl (by decide) (Nat.le_of_ble_eq_true rfl) rfl (Cl.imp h (fun vv μ3 h => ?_))
  obtain ⟨v4, hv, h⟩ := h
  refine ⟨v4, hv, ?_⟩
  refine v_iast (q := 107) DM_X8_court_106 rfl sh_90 (by decide) ⟨by decide, fun μ5 e5 => ?_⟩
  replace h := h μ5 e5
  refine r_aloadn (q := 108) DM_X8_court_107 rfl rfl ?_
  refine r_aloadn (q := 109) DM_X8_court_108 rfl rfl ?_
  refine v_getI (q := 112) (ji := 11) DM_X8_court_109 rfl fRX8_107 sh_83 rfl rfl ?_
  refine r_iconst (q := 113) (n := 4) DM_X8_court_112 rfl ?_
  have i6 := h.1
  replace h := h.2
  refine r_icne (q := 116) (t := 120) DM_X8_court_113 rfl (by decide) ⟨⟨i6, (by decide)⟩, fun cc => ?_, fun cc => ?_⟩
  · replace h := h.1 cc
    refine r_iconst (q := 121) (n := 0) DM_X8_court_120 rfl ?_
    refine r_iconst (q := 122) (n := 1) DM_X8_court_121 rfl ?_
    refine r_callVi [.inl 0, .inl 1] (q := 125) DM_X8_court_122 rfl kM_X8_takes lRX8_123 sh_83 rfl rfl (by decide) (Nat.le_of_ble_eq_true rfl) rfl (Cl.imp h (fun vv μ7 h => ?_))
    obtain ⟨v8, hv, h⟩ := h
    refine ⟨v8, hv, ?_⟩
    refine r_pop (q := 126) DM_X8_court_125 rfl ?_
    refine r_aloadn (q := 127) DM_X8_court_126 rfl rfl ?_
    refine r_callVv [] (q := 130) DM_X8_court_127 rfl kM_X8_readsOrder lRX8_144 sh_83 rfl rfl (by decide) (Nat.le_of_ble_eq_true rfl) rfl (Cl.imp h (fun vv μ9 h => ?_))
    obtain ⟨hv, h⟩ := h
    refine ⟨hv, ?_⟩
    exact h
  · replace h := h.2 cc
    refine r_iconst (q := 117) (n := 1) DM_X8_court_116 rfl ?_
    refine r_goto (q := 121) DM_X8_court_117 (by decide) ?_
    refine r_iconst (q := 122) (n := 1) DM_X8_court_121 rfl ?_
    refine r_callVi [.inl 1, .inl 1] (q := 125) DM_X8_court_122 rfl kM_X8_takes lRX8_123 sh_83 rfl rfl (by decide) (Nat.le_of_ble_eq_true rfl) rfl (Cl.imp h (fun vv μ11 h => ?_))
    obtain ⟨v12, hv, h⟩ := h
    refine ⟨v12, hv, ?_⟩
    refine r_pop (q := 126) DM_X8_court_125 rfl ?_
    refine r_aloadn (q := 127) DM_X8_court_126 rfl rfl ?_
    refine r_callVv [] (q := 130) DM_X8_court_127 rfl kM_X8_readsOrder lRX8_144 sh_83 rfl rfl (by decide) (Nat.le_of_ble_eq_true rfl) rfl (Cl.imp h (fun vv μ13 h => ?_))
    obtain ⟨hv, h⟩ := h
    refine ⟨hv, ?_⟩
    exact h
set_option maxRecDepth 20000 in
theorem s_X8_court_130 {E : Ex} {μ : Mem} {Q : Option Vl → Mem → Prop} {x1 : Int}  (h : Cl E 0 M_X8_isWell [.inr 83] μ (fun vv μ1 => ∃ v2, vv = some (.inl (bi v2)) ∧ (v2 = false → inR (μ1 83 11) ∧ ((μ1 83 11) ≠ 0 → Gg E 5 M_X8_court 175 [some (.inr 83), some (.inl x1)] [.inl 0, .inr 83] μ1 Q) ∧ ((μ1 83 11) = 0 → Gg E 5 M_X8_court 175 [some (.inr 83), some (.inl x1)] [.inl 1, .inr 83] μ1 Q)) ∧ (v2 = true → inR (μ1 83 11) ∧ ((μ1 83 11) ≠ 1 → ((μ1 83 11) ≠ 0 → Gg E 5 M_X8_court 175 [some (.inr 83), some (.inl x1)] [.inl 0, .inr 83] μ1 Q) ∧ ((μ1 83 11) = 0 → Gg E 5 M_X8_court 175 [some (.inr 83), some (.inl x1)] [.inl 1, .inr 83] μ1 Q)) ∧ ((μ1 83 11) = 1 → Cl E 0 M_X8_kindOf [.inl (μ1 83 12)] μ1 (fun vv μ5 => ∃ v6, vv = some (.inl v6) ∧ inR v6 ∧ (v6 ≤ 0 → inR (μ5 83 11) ∧ ((μ5 83 11) ≠ 0 → Gg E 5 M_X8_court 175 [some (.inr 83), some (.inl x1)] [.inl 0, .inr 83] μ5 Q) ∧ ((μ5 83 11) = 0 → Gg E 5 M_X8_court 175 [some (.inr 83), some (.inl x1)] [.inl 1, .inr 83] μ5 Q)) ∧ (¬ v6 ≤ 0 → Cl E 4 M_X8_readsPerson [.inr 83] μ5 (fun vv μ9 => vv = none ∧ Gg E 5 M_X8_court 130 [some (.inr 83), some (.inl x1)] [] μ9 Q))))))) : Gg E 5 M_X8_court 130 [some (.inr 83), some (.inl x1)] [] μ Q := by
  refine r_aloadn (q := 131) DM_X8_court_130 rfl rfl ?_
  refine r_callVi [] (q := 134) DM_X8_court_131 rfl kM_X8_isWell lRX8_113 sh_83 rfl rfl (by decide) (Nat.le_of_ble_eq_true rfl) rfl (Cl.imp h (fun vv μ1 h => ?_))
  obtain ⟨v2, hv, h⟩ := h
  refine ⟨_, hv, ?_⟩
  refine r_bbeq (q := 137) (t := 162) DM_X8_court_134 rfl (by decide) ⟨fun cc => ?_, fun cc => ?_⟩
  · replace h := h.1 cc
    refine r_aloadn (q := 163) DM_X8_court_162 rfl rfl ?_
    refine r_aloadn (q := 164) DM_X8_court_163 rfl rfl ?_
    refine v_getI (q := 167) (ji := 11) DM_X8_court_164 rfl fRX8_107 sh_83 rfl rfl ?_
    have i3 := h.1
    replace h := h.2
    refine r_ifne (q := 170) (t := 174) DM_X8_court_167 rfl (by decide) ⟨i3, fun cc => ?_, fun cc => ?_⟩
    · replace h := h.1 cc
      refine r_iconst (q := 175) (n := 0) DM_X8_court_174 rfl ?_
      exact h
    · replace h := h.2 cc
      refine r_iconst (q := 171) (n := 1) DM_X8_court_170 rfl ?_
      refine r_goto (q := 175) DM_X8_court_171 (by decide) ?_
      exact h
  · replace h := h.2 cc
    refine r_aloadn (q := 138) DM_X8_court_137 rfl rfl ?_
    refine v_getI (q := 141) (ji := 11) DM_X8_court_138 rfl fRX8_107 sh_83 rfl rfl ?_
    refine r_iconst (q := 142) (n := 1) DM_X8_court_141 rfl ?_
    have i4 := h.1
    replace h := h.2
    refine r_icne (q := 145) (t := 162) DM_X8_court_142 rfl (by decide) ⟨⟨i4, (by decide)⟩, fun cc => ?_, fun cc => ?_⟩
    · replace h := h.1 cc
      refine r_aloadn (q := 163) DM_X8_court_162 rfl rfl ?_
      refine r_aloadn (q := 164) DM_X8_court_163 rfl rfl ?_
      refine v_getI (q := 167) (ji := 11) DM_X8_court_164 rfl fRX8_107 sh_83 rfl rfl ?_
      refine r_ifne (q := 170) (t := 174) DM_X8_court_167 rfl (by decide) ⟨i4, fun cc => ?_, fun cc => ?_⟩
      · replace h := h.1 cc
        refine r_iconst (q := 175) (n := 0) DM_X8_court_174 rfl ?_
        exact h
      · replace h := h.2 cc
        refine r_iconst (q := 171) (n := 1) DM_X8_court_170 rfl ?_
        refine r_goto (q := 175) DM_X8_court_171 (by decide) ?_
        exact h
    · replace h := h.2 cc
      refine r_aloadn (q := 146) DM_X8_court_145 rfl rfl ?_
      refine v_getI (q := 149) (ji := 12) DM_X8_court_146 rfl fRX8_104 sh_83 rfl rfl ?_
      refine r_callSi [.inl (μ1 83 12)] (q := 152) DM_X8_court_149 rfl kM_X8_kindOf lRX8_134 rfl (by decide) (Nat.le_of_ble_eq_true rfl) rfl (Cl.imp h (fun vv μ5 h => ?_))
      obtain ⟨v6, hv, h⟩ := h
      refine ⟨v6, hv, ?_⟩
      have i7 := h.1
      replace h := h.2
      refine r_ifle (q := 155) (t := 162) DM_X8_court_152 rfl (by decide) ⟨i7, fun cc => ?_, fun cc => ?_⟩
      · replace h := h.1 cc
        refine r_aloadn (q := 163) DM_X8_court_162 rfl rfl ?_
        refine r_aloadn (q := 164) DM_X8_court_163 rfl rfl ?_
        refine v_getI (q := 167) (ji := 11) DM_X8_court_164 rfl fRX8_107 sh_83 rfl rfl ?_
        have i8 := h.1
        replace h := h.2
        refine r_ifne (q := 170) (t := 174) DM_X8_court_167 rfl (by decide) ⟨i8, fun cc => ?_, fun cc => ?_⟩
        · replace h := h.1 cc
          refine r_iconst (q := 175) (n := 0) DM_X8_court_174 rfl ?_
          exact h
        · replace h := h.2 cc
          refine r_iconst (q := 171) (n := 1) DM_X8_court_170 rfl ?_
          refine r_goto (q := 175) DM_X8_court_171 (by decide) ?_
          exact h
      · replace h := h.2 cc
        refine r_aloadn (q := 156) DM_X8_court_155 rfl rfl ?_
        refine r_callVv [] (q := 159) DM_X8_court_156 rfl kM_X8_readsPerson lRX8_147 sh_83 rfl rfl (by decide) (Nat.le_of_ble_eq_true rfl) rfl (Cl.imp h (fun vv μ9 h => ?_))
        obtain ⟨hv, h⟩ := h
        refine ⟨hv, ?_⟩
        refine r_goto (q := 130) DM_X8_court_159 (by decide) ?_
        exact h
set_option maxRecDepth 20000 in
theorem s_X8_court_175 {E : Ex} {μ : Mem} {Q : Option Vl → Mem → Prop} {x1 y0 : Int}  (h : Cl E 1 M_X8_takes2 [.inr 83, .inl y0] μ (fun vv μ1 => vv = none ∧ ∀ μ3 : Mem, μ3 = up μ1 83 6 0 → Cl E 0 M_X8_isWell [.inr 83] μ3 (fun vv μ4 => ∃ v5, vv = some (.inl (bi v5)) ∧ (v5 = true → Cl E 0 M_X8_copies [.inr 90, .inl 0, .inr 89, .inl 0] μ4 (fun vv μ6 => vv = none ∧ ∀ μ8 : Mem, μ8 = up μ6 83 17 0 → Q (some (.inl (μ8 89 2))) μ8)) ∧ (v5 = false → Q (some (.inl ((-1000100) - (μ4 83 8)))) μ4)))) : Gg E 5 M_X8_court 175 [some (.inr 83), some (.inl x1)] [.inl y0, .inr 83] μ Q := by
  refine r_callVv [.inl y0] (q := 178) DM_X8_court_175 rfl kM_X8_takes2 lRX8_137 sh_83 rfl rfl (by decide) (Nat.le_of_ble_eq_true rfl) rfl (Cl.imp h (fun vv μ1 h => ?_))
  obtain ⟨hv, h⟩ := h
  refine ⟨hv, ?_⟩
  refine r_aloadn (q := 179) DM_X8_court_178 rfl rfl ?_
  refine r_iconst (q := 180) (n := 0) DM_X8_court_179 rfl ?_
  refine v_put (q := 183) (ji := 6) DM_X8_court_180 rfl pfRX8_91 sh_83 rfl rfl (Or.inl rfl) (fun μ3 e3 => ?_)
  replace h := h μ3 e3
  refine r_aloadn (q := 184) DM_X8_court_183 rfl rfl ?_
  refine r_callVi [] (q := 187) DM_X8_court_184 rfl kM_X8_isWell lRX8_113 sh_83 rfl rfl (by decide) (Nat.le_of_ble_eq_true rfl) rfl (Cl.imp h (fun vv μ4 h => ?_))
  obtain ⟨v5, hv, h⟩ := h
  refine ⟨_, hv, ?_⟩
  refine r_bbne (q := 190) (t := 198) DM_X8_court_187 rfl (by decide) ⟨fun cc => ?_, fun cc => ?_⟩
  · replace h := h.1 cc
    refine r_aloadn (q := 199) DM_X8_court_198 rfl rfl ?_
    refine r_getR (q := 202) (r := 90) DM_X8_court_199 rfl fRX8_28 sh_83 rfl ?_
    refine r_iconst (q := 203) (n := 0) DM_X8_court_202 rfl ?_
    refine r_aloadn (q := 204) DM_X8_court_203 rfl rfl ?_
    refine r_getR (q := 207) (r := 89) DM_X8_court_204 rfl fRX8_25 sh_83 rfl ?_
    refine r_iconst (q := 208) (n := 0) DM_X8_court_207 rfl ?_
    refine r_callSv [.inr 90, .inl 0, .inr 89, .inl 0] (q := 211) DM_X8_court_208 rfl kM_X8_copies lRX8_151 rfl (by decide) (Nat.le_of_ble_eq_true rfl) rfl (Cl.imp h (fun vv μ6 h => ?_))
    obtain ⟨hv, h⟩ := h
    refine ⟨hv, ?_⟩
    refine r_aloadn (q := 212) DM_X8_court_211 rfl rfl ?_
    refine r_iconst (q := 213) (n := 0) DM_X8_court_212 rfl ?_
    refine v_put (q := 216) (ji := 17) DM_X8_court_213 rfl pfRX8_155 sh_83 rfl rfl (Or.inl rfl) (fun μ8 e8 => ?_)
    replace h := h μ8 e8
    refine r_aloadn (q := 217) DM_X8_court_216 rfl rfl ?_
    refine r_getR (q := 220) (r := 89) DM_X8_court_217 rfl fRX8_25 sh_83 rfl ?_
    refine r_iconst (q := 221) (n := 2) DM_X8_court_220 rfl ?_
    refine r_iald (q := 222) DM_X8_court_221 rfl sh_89 (by decide) ⟨by decide, ?_⟩
    exact r_ret (v := some (.inl (μ8 89 2))) ⟨DM_X8_court_222, Or.inl rfl⟩ h
  · replace h := h.2 cc
    refine r_ldc (q := 192) (n := (-1000100)) DM_X8_court_190 rfl nRX8_150 ?_
    refine r_aloadn (q := 193) DM_X8_court_192 rfl rfl ?_
    refine v_getI (q := 196) (ji := 8) DM_X8_court_193 rfl fRX8_110 sh_83 rfl rfl ?_
    refine r_isub (q := 197) DM_X8_court_196 rfl ?_
    exact r_ret (v := some (.inl ((-1000100) - (μ4 83 8)))) ⟨DM_X8_court_197, Or.inl rfl⟩ h
def fl7 (μ μ1 : Mem) (f a : Int) : Prop := μ1 2 2 = f ∧ μ1 2 3 = a ∧ (∀ k, k ≠ 2 → μ1 k = μ k)
section P63
variable {E : Ex} {μ ν : Mem} {Q : Option Vl → Mem → Prop} {T : Int → Int} {n a x x1 x2 x3 x4 x5 y0 f lo hi c : Int}
theorem tk_num (hT : tkOK T n) (h0 : 0 ≤ a) (h : tkT T n a = -2) : a < n ∧ (0 ≤ tkV T n a ∧ tkV T n a ≤ 99) := by
  unfold tkT at h
  split at h
  · exact absurd h (by decide)
  · split at h
    · next q =>
      have := isF_t q
      refine ⟨this.1, ?_⟩
      unfold tkV
      split
      · next q2 => have := isF_t q2; omega
      · omega
    · have := hT.2 a h0 (by omega); omega
theorem C7.pl (h : C7 T n μ a) : μ 2 1 = n ∧ (∀ j, 0 ≤ j → j < n → μ 3 j = T j) := h.1
theorem C7.nx (h : C7 T n μ a) : μ 2 4 = tkN T n a := h.2.2.2.2
theorem C8.pl (h : C8 T n μ a) : μ 83 6 = n ∧ (∀ j, 0 ≤ j → j < n → μ 88 j = T j) := h.1
theorem C8.nx (h : C8 T n μ a) : μ 83 9 = tkN T n a := h.2.2.2.2
theorem k_X4_hasFault (h5 : μ 2 5 = a) (h : ∀ μ1 : Mem, fl7 μ μ1 f a → Q (some (.inl (bi false))) μ1) : Cl E 0 M_X4_hasFault [.inr 2, .inl f] μ Q := by
  refine s_X4_hasFault (fun μ1 e1 μ2 e2 => h μ2 ⟨?_, ?_, fun k hk => ?_⟩)
  · rw [e2, up_off (Or.inr (by decide)), e1, up_self]
  · rw [e2, up_self, e1, up_off (Or.inr (by decide)), h5]
  · rw [e2, up_ne hk, e1, up_ne hk]
theorem k_X4_passOver (hT : tkOK T n) (hC : C7 T n μ a) (h0 : 0 ≤ a ∧ a ≤ n) (ic : inR c) (h1 : tkT T n a = c → ∀ μ1 : Mem, C7 T n μ1 (tkN T n a) → (∀ k, k ≠ 2 → μ1 k = μ k) → Q (some (.inl (bi true))) μ1) (h2 : tkT T n a ≠ c → ∀ μ1 : Mem, fl7 μ μ1 1 a → Q (some (.inl (bi false))) μ1) : Cl E 2 M_X4_passOver [.inr 2, .inl c] μ Q := by
  have tr := tkT_rng hT h0.1
  have nr := tkN_rng (T := T) h0.1 h0.2
  have e6 := hC.2.2.1
  refine s_X4_passOver ⟨by omega, ic, fun z => k_X4_step hT hC.pl.1 hC.pl.2 hC.nx (by omega) (fun μ1 c1 o1 => ⟨rfl, h1 (by omega) μ1 c1 o1⟩), fun z => k_X4_hasFault hC.2.1 (fun μ1 c1 => ⟨_, rfl, h2 (by omega) μ1 c1⟩)⟩
theorem k_X4_isNumberIn (hT : tkOK T n) (hC : C7 T n μ a) (h0 : 0 ≤ a ∧ a ≤ n) (il : inR lo) (ih : inR hi) (h1 : tkT T n a = -2 → lo ≤ tkV T n a ∧ tkV T n a ≤ hi → Q (some (.inl (bi true))) μ) (h2 : tkT T n a = -2 → ¬ (lo ≤ tkV T n a ∧ tkV T n a ≤ hi) → ∀ μ1 : Mem, fl7 μ μ1 2 a → Q (some (.inl (bi false))) μ1) (h3 : tkT T n a ≠ -2 → ∀ μ1 : Mem, fl7 μ μ1 1 a → Q (some (.inl (bi false))) μ1) : Cl E 1 M_X4_isNumberIn [.inr 2, .inl lo, .inl hi] μ Q := by
  have tr := tkT_rng hT h0.1
  have e6 := hC.2.2.1
  refine s_X4_isNumberIn ⟨by omega, fun z => ?_, fun z => k_X4_hasFault hC.2.1 (fun μ1 c1 => ⟨_, rfl, h3 (by omega) μ1 c1⟩)⟩
  have t2 : tkT T n a = -2 := by omega
  have vr := (tk_num hT h0.1 t2).2
  have e7 := hC.2.2.2.1 t2
  exact ⟨by omega, il, fun y => k_X4_hasFault hC.2.1 (fun μ1 c1 => ⟨_, rfl, h2 t2 (by omega) μ1 c1⟩), fun y => ⟨ih, fun y2 => h1 t2 (by omega), fun y2 => k_X4_hasFault hC.2.1 (fun μ1 c1 => ⟨_, rfl, h2 t2 (by omega) μ1 c1⟩)⟩⟩
theorem k_X4_takeNumber (hT : tkOK T n) (hC : C7 T n μ a) (h0 : 0 ≤ a ∧ a ≤ n) (ht : tkT T n a = -2) (h : ∀ μ1 : Mem, C7 T n μ1 (tkN T n a) → (∀ k, k ≠ 2 → μ1 k = μ k) → Q (some (.inl (tkV T n a))) μ1) : Cl E 2 M_X4_takeNumber [.inr 2] μ Q := by
  have nr := tkN_rng (T := T) h0.1 h0.2
  refine s_X4_takeNumber (k_X4_step hT hC.pl.1 hC.pl.2 hC.nx (by omega) (fun μ1 c1 o1 => ⟨rfl, ?_⟩))
  rw [hC.2.2.2.1 ht]; exact h μ1 c1 o1
theorem k_X4_isLetter (hT : tkOK T n) (hC : C7 T n μ a) (h0 : 0 ≤ a ∧ a ≤ n) (h : Q (some (.inl (bi (decide (97 ≤ tkT T n a ∧ tkT T n a < 105))))) μ) : Cl E 0 M_X4_isLetter [.inr 2] μ Q := by
  have tr := tkT_rng hT h0.1
  have e6 := hC.2.2.1
  refine s_X4_isLetter ⟨by omega, fun z => ?_, fun z => ⟨fun z2 => ?_, fun z2 => ?_⟩⟩
  · rwa [decide_eq_false (by omega)] at h
  · rwa [decide_eq_false (by omega)] at h
  · rwa [decide_eq_true (by omega)] at h
theorem k_X4_letterOfToken (hC : C7 T n μ a) (h : Q (some (.inl (tkT T n a - 97))) μ) : Cl E 0 M_X4_letterOfToken [.inr 2] μ Q := by
  refine s_X4_letterOfToken ?_
  rw [hC.2.2.1]; exact h
/-! the reference -/
theorem k_X8_isWell (iw : inR (μ 83 8)) (h : Q (some (.inl (bi (decide (μ 83 8 < 0))))) μ) : Cl E 0 M_X8_isWell [.inr 83] μ Q := by
  refine s_X8_isWell ⟨iw, fun z => ?_, fun z => ?_⟩
  · rwa [decide_eq_false (by omega)] at h
  · rwa [decide_eq_true (by omega)] at h
theorem k_X8_wellY (hw : ν 83 8 = -1) (h : Q (some (.inl (bi true))) ν) : Cl E 0 M_X8_isWell [.inr 83] ν Q := k_X8_isWell (by omega) (by rwa [decide_eq_true (by omega)])
theorem k_X8_wellN (hw : 0 ≤ ν 83 8 ∧ ν 83 8 ≤ 1000) (h : Q (some (.inl (bi false))) ν) : Cl E 0 M_X8_isWell [.inr 83] ν Q := k_X8_isWell (by omega) (by rwa [decide_eq_false (by omega)])
theorem takes_ok (hT : tkOK T n) (hC : C8 T n ν a) (h0 : 0 ≤ a ∧ a ≤ n) (hw : ν 83 8 = -1) (h : ∀ ν1 : Mem, C8 T n ν1 (tkN T n a) → avR ν ν1 → Q (some (.inl (ν 83 12))) ν1) : Cl E 2 M_X8_takes [.inr 83, .inl 1, .inl f] ν Q := by
  have nr := tkN_rng (T := T) h0.1 h0.2
  exact s_X8_takes (k_X8_wellY hw ⟨_, rfl, fun _ => ⟨by decide, fun _ => k_X8_advances hT hC.pl.1 hC.pl.2 hC.nx (by omega) (fun ν1 c1 r1 => ⟨rfl, h ν1 c1 r1⟩), fun z => absurd z (by decide)⟩, fun z => absurd z (by decide)⟩)
/-- a fault is found at the token -/
def flR (ν ν1 : Mem) (f a : Int) : Prop := ν1 83 8 = a ∧ ν1 83 7 = f ∧ (∀ i, i ≠ 7 → i ≠ 8 → ν1 83 i = ν 83 i) ∧ ∀ k, k ≠ 83 → ν1 k = ν k
theorem takes_no (hC : C8 T n ν a) (hw : ν 83 8 = -1) (h : ∀ ν1 : Mem, flR ν ν1 f a → Q (some (.inl 0)) ν1) : Cl E 2 M_X8_takes [.inr 83, .inl 0, .inl f] ν Q := by
  refine s_X8_takes (k_X8_wellY hw ⟨_, rfl, fun _ => ⟨by decide, fun z => absurd rfl z, fun _ μ6 e6 μ7 e7 => h μ7 ⟨?_, ?_, fun i i1 i2 => ?_, fun k hk => ?_⟩⟩, fun z => absurd z (by decide)⟩)
  · rw [e7, up_off (Or.inr (by decide)), e6, up_self, hC.2.1]
  · rw [e7, up_self]
  · rw [e7, up_off (Or.inr i1), e6, up_off (Or.inr i2)]
  · rw [e7, up_ne hk, e6, up_ne hk]
theorem takes_off (hw : 0 ≤ ν 83 8 ∧ ν 83 8 ≤ 1000) (h : Q (some (.inl 0)) ν) : Cl E 2 M_X8_takes [.inr 83, .inl x, .inl f] ν Q :=
  s_X8_takes (k_X8_wellN hw ⟨_, rfl, fun z => absurd z (by decide), fun _ => h⟩)
theorem takes2_ok (hw : ν 83 8 = -1) (h : Q none ν) : Cl E 1 M_X8_takes2 [.inr 83, .inl 1] ν Q :=
  s_X8_takes2 (k_X8_wellY hw ⟨_, rfl, fun z => absurd z (by decide), fun _ => ⟨by decide, fun _ => h, fun z => absurd z (by decide)⟩⟩)
theorem takes2_no (hC : C8 T n ν a) (hw : ν 83 8 = -1) (h : ∀ ν1 : Mem, flR ν ν1 1 a → Q none ν1) : Cl E 1 M_X8_takes2 [.inr 83, .inl 0] ν Q := by
  refine s_X8_takes2 (k_X8_wellY hw ⟨_, rfl, fun z => absurd z (by decide), fun _ => ⟨by decide, fun z => absurd rfl z, fun _ μ6 e6 μ7 e7 => h μ7 ⟨?_, ?_, fun i i1 i2 => ?_, fun k hk => ?_⟩⟩⟩)
  · rw [e7, up_off (Or.inr (by decide)), e6, up_self, hC.2.1]
  · rw [e7, up_self]
  · rw [e7, up_off (Or.inr i1), e6, up_off (Or.inr i2)]
  · rw [e7, up_ne hk, e6, up_ne hk]
theorem takes2_off (hw : 0 ≤ ν 83 8 ∧ ν 83 8 ≤ 1000) (h : Q none ν) : Cl E 1 M_X8_takes2 [.inr 83, .inl x] ν Q :=
  s_X8_takes2 (k_X8_wellN hw ⟨_, rfl, fun _ => h, fun z => absurd z (by decide)⟩)
theorem rTk_2 {t : Int} (ht : -3 ≤ t) : rTk t = 2 ↔ t = -2 := by
  unfold rTk
  by_cases c : t = -2
  · subst c; exact ⟨fun _ => rfl, fun _ => rfl⟩
  · refine ⟨fun q => ?_, fun q => absurd q c⟩
    rw [if_neg c] at q
    split at q
    · omega
    · split at q
      · omega
      · split at q
        · omega
        · split at q
          · omega
          · split at q <;> omega
theorem rTk_rng {t : Int} : 0 ≤ rTk t ∧ rTk t ≤ 5 := by unfold rTk; repeat (first | omega | split)
theorem figure_ok (hT : tkOK T n) (hC : C8 T n ν a) (h0 : 0 ≤ a ∧ a ≤ n) (hw : ν 83 8 = -1) (il : inR lo) (ih : inR hi) (ht : tkT T n a = -2) (hr : lo ≤ tkV T n a ∧ tkV T n a ≤ hi) (h : ∀ ν1 : Mem, C8 T n ν1 (tkN T n a) → avR ν ν1 → Q (some (.inl (tkV T n a))) ν1) : Cl E 3 M_X8_figure [.inr 83, .inl lo, .inl hi] ν Q := by
  have e11 := hC.2.2.1
  have e12 := hC.2.2.2.1.1 ht
  have vr := (tk_num hT h0.1 ht).2
  rw [ht] at e11
  refine s_X8_figure (k_X8_wellY hw ⟨_, rfl, fun z => absurd z (by decide), fun _ => ?_⟩)
  rw [e11, e12]
  refine ⟨by decide, fun _ => ⟨by omega, il, ih, ?_⟩, fun z => absurd rfl z⟩
  rw [decide_eq_true hr]
  exact takes_ok hT hC h0 hw (fun ν1 c1 r1 => ⟨_, rfl, by rw [e12]; exact h ν1 c1 r1⟩)
theorem figure_no2 (hT : tkOK T n) (hC : C8 T n ν a) (h0 : 0 ≤ a ∧ a ≤ n) (hw : ν 83 8 = -1) (il : inR lo) (ih : inR hi) (ht : tkT T n a = -2) (hr : ¬ (lo ≤ tkV T n a ∧ tkV T n a ≤ hi)) (h : ∀ ν1 : Mem, flR ν ν1 2 a → Q (some (.inl 0)) ν1) : Cl E 3 M_X8_figure [.inr 83, .inl lo, .inl hi] ν Q := by
  have e11 := hC.2.2.1
  have e12 := hC.2.2.2.1.1 ht
  have vr := (tk_num hT h0.1 ht).2
  rw [ht] at e11
  refine s_X8_figure (k_X8_wellY hw ⟨_, rfl, fun z => absurd z (by decide), fun _ => ?_⟩)
  rw [e11, e12]
  refine ⟨by decide, fun _ => ⟨by omega, il, ih, ?_⟩, fun z => absurd rfl z⟩
  rw [decide_eq_false hr]
  exact takes_no hC hw (fun ν1 r1 => ⟨_, rfl, h ν1 r1⟩)
theorem figure_no1 (hT : tkOK T n) (hC : C8 T n ν a) (h0 : 0 ≤ a ∧ a ≤ n) (hw : ν 83 8 = -1) (ht : tkT T n a ≠ -2) (h : ∀ ν1 : Mem, flR ν ν1 1 a → Q (some (.inl 0)) ν1) : Cl E 3 M_X8_figure [.inr 83, .inl lo, .inl hi] ν Q := by
  have e11 := hC.2.2.1
  have tr := tkT_rng hT h0.1
  have r2 := rTk_2 tr.1
  have rr := rTk_rng (t := tkT T n a)
  refine s_X8_figure (k_X8_wellY hw ⟨_, rfl, fun z => absurd z (by decide), fun _ => ⟨by omega, fun z => absurd (r2.1 (by omega)) ht, fun _ => takes_no hC hw (fun ν1 r1 => ⟨_, rfl, h ν1 r1⟩)⟩⟩)
theorem figure_off (hw : 0 ≤ ν 83 8 ∧ ν 83 8 ≤ 1000) (iv : inR (ν 83 12)) (il : inR lo) (ih : inR hi) (h : Q (some (.inl 0)) ν) : Cl E 3 M_X8_figure [.inr 83, .inl lo, .inl hi] ν Q :=
  s_X8_figure (k_X8_wellN hw ⟨_, rfl, fun _ => ⟨iv, il, ih, takes_off hw ⟨_, rfl, h⟩⟩, fun z => absurd z (by decide)⟩)
/-! once a fault is found, the reference goes to its end -/
def bdW (ν : Mem) : Prop := (0 ≤ ν 83 8 ∧ ν 83 8 ≤ 1000) ∧ inR (ν 83 11) ∧ inR (ν 83 12) ∧ inR (ν 90 2)
/-- what a reader that has failed may still change -/
def bdR (ν ν1 : Mem) : Prop := (∀ k, k ≠ 90 → ν1 k = ν k) ∧ ν1 90 2 = ν 90 2
theorem bdR.rf : bdR ν ν := ⟨fun _ _ => rfl, rfl⟩
theorem bdR.tr {ν1 ν2 : Mem} (h : bdR ν ν1) (k : bdR ν1 ν2) : bdR ν ν2 := ⟨fun i hi => (k.1 i hi).trans (h.1 i hi), k.2.trans h.2⟩
theorem bdR.w {ν1 : Mem} (h : bdR ν ν1) (hw : bdW ν) : bdW ν1 := by unfold bdW at hw ⊢; rw [h.1 83 (by decide), h.2]; exact hw
theorem bad_175 (hw : bdW ν) (h : ∀ ν1 : Mem, ν1 = up ν 83 6 0 → Q (some (.inl (-1000100 - ν 83 8))) ν1) : Gg E 5 M_X8_court 175 [some (.inr 83), some (.inl x1)] [.inl y0, .inr 83] ν Q := by
  refine s_X8_court_175 (takes2_off hw.1 ⟨rfl, fun μ3 e3 => ?_⟩)
  have e8 : μ3 83 8 = ν 83 8 := by rw [e3, up_off (Or.inr (by decide))]
  refine k_X8_wellN (by rw [e8]; exact hw.1) ⟨_, rfl, fun z => absurd z (by decide), fun _ => ?_⟩
  rw [e8]; exact h μ3 e3
theorem bad_130 (hw : bdW ν) (h : ∀ ν1 : Mem, ν1 = up ν 83 6 0 → Q (some (.inl (-1000100 - ν 83 8))) ν1) : Gg E 5 M_X8_court 130 [some (.inr 83), some (.inl x1)] [] ν Q :=
  s_X8_court_130 (k_X8_wellN hw.1 ⟨_, rfl, fun _ => ⟨hw.2.1, fun _ => bad_175 hw h, fun _ => bad_175 hw h⟩, fun z => absurd z (by decide)⟩)
theorem name_off (hw : bdW ν) (h : Q (some (.inl (bi false))) ν) : Cl E 1 M_X8_isName [.inr 83] ν Q :=
  s_X8_isName (k_X8_wellN hw.1 ⟨_, rfl, fun _ => h, fun z => absurd z (by decide)⟩)
theorem bad_o119 (hw : bdW ν) (i3 : inR x3) (h : Q none ν) : Gg E 3 M_X8_readsOrder 119 [some (.inr 83), some (.inl x1), some (.inl x2), some (.inl x3)] [] ν Q :=
  s_X8_readsOrder_119 ⟨i3, fun _ => h, fun _ => k_X8_wellN hw.1 ⟨_, rfl, fun _ => h, fun z => absurd z (by decide)⟩⟩
theorem bad_o32 (hw : bdW ν) (h : Q none ν) : Gg E 3 M_X8_readsOrder 32 [some (.inr 83), some (.inl x1), some (.inl x2), none] [] ν Q :=
  s_X8_readsOrder_32 (name_off hw ⟨_, rfl, fun _ => ⟨hw.2.1, fun _ => takes_off hw.1 ⟨_, rfl, bad_o119 hw (by decide) h⟩, fun _ => takes_off hw.1 ⟨_, rfl, bad_o119 hw (by decide) h⟩⟩, fun z => absurd z (by decide)⟩)
theorem bad_order (hw : bdW ν) (h : Q none ν) : Cl E 3 M_X8_readsOrder [.inr 83] ν Q :=
  s_X8_readsOrder ⟨hw.2.1, fun _ => takes_off hw.1 ⟨_, rfl, bad_o32 hw h⟩, fun _ => ⟨hw.2.2.1, fun _ => takes_off hw.1 ⟨_, rfl, bad_o32 hw h⟩, fun _ => takes_off hw.1 ⟨_, rfl, bad_o32 hw h⟩⟩⟩
theorem bad_p163 (hw : bdW ν) (h : Q none ν) : Gg E 4 M_X8_readsPerson 163 [some (.inr 83), some (.inl x1), some (.inl x2), some (.inl x3), some (.inl x4), some (.inl x5)] [.inl y0, .inr 83] ν Q :=
  s_X8_readsPerson_163 (takes_off hw.1 ⟨_, rfl, k_X8_wellN hw.1 ⟨_, rfl, fun _ => h, fun z => absurd z (by decide)⟩⟩)
theorem bad_p135 (hw : bdW ν) (h : Q none ν) : Gg E 4 M_X8_readsPerson 135 [some (.inr 83), some (.inl x1), some (.inl x2), some (.inl x3), some (.inl x4), none] [.inl y0, .inr 83] ν Q :=
  s_X8_readsPerson_135 (takes_off hw.1 ⟨_, rfl, figure_off hw.1 hw.2.2.1 (by decide) (by decide) ⟨_, rfl, hw.2.1, fun _ => bad_p163 hw h, fun _ => bad_p163 hw h⟩⟩)
theorem bad_p99 (hw : bdW ν) (i3 : inR x3) (h : Q none ν) : Gg E 4 M_X8_readsPerson 99 [some (.inr 83), some (.inl x1), some (.inl x2), some (.inl x3), none, none] [] ν Q :=
  s_X8_readsPerson_99 ⟨i3, fun _ => takes2_off hw.1 ⟨rfl, figure_off hw.1 hw.2.2.1 (by decide) (by decide) ⟨_, rfl, hw.2.1, fun _ => bad_p135 hw h, fun _ => bad_p135 hw h⟩⟩, fun _ => takes2_off hw.1 ⟨rfl, figure_off hw.1 hw.2.2.1 (by decide) (by decide) ⟨_, rfl, hw.2.1, fun _ => bad_p135 hw h, fun _ => bad_p135 hw h⟩⟩⟩
theorem bad_p60 (hw : bdW ν) (i3 : inR x3) (h : Q none ν) : Gg E 4 M_X8_readsPerson 60 [some (.inr 83), some (.inl x1), some (.inl x2), some (.inl x3), none, none] [] ν Q :=
  s_X8_readsPerson_60 (name_off hw ⟨_, rfl, fun _ => bad_p99 hw i3 h, fun z => absurd z (by decide)⟩)
theorem bad_89 (hw : bdW ν) (h : ∀ ν1 : Mem, bdR ν ν1 → ∀ ν2 : Mem, ν2 = up ν1 83 6 0 → Q (some (.inl (-1000100 - ν 83 8))) ν2) : Gg E 5 M_X8_court 89 [some (.inr 83), some (.inl x1)] [.inl y0, .inr 83] ν Q := by
  refine s_X8_court_89 (takes_off hw.1 ⟨_, rfl, figure_off hw.1 hw.2.2.1 (by decide) (by decide) ⟨_, rfl, fun μ5 e5 => ?_⟩⟩)
  have b5 : bdR ν μ5 := ⟨fun k hk => by rw [e5, up_ne hk], by rw [e5, up_off (Or.inr (by decide))]⟩
  have w5 := b5.w hw
  have e8 : μ5 83 8 = ν 83 8 := by rw [b5.1 83 (by decide)]
  have fin : Gg E 5 M_X8_court 130 [some (.inr 83), some (.inl x1)] [] μ5 Q := bad_130 w5 (fun ν1 e1 => by rw [e8]; exact h μ5 b5 ν1 e1)
  exact ⟨w5.2.1, fun _ => takes_off w5.1 ⟨_, rfl, bad_order w5 ⟨rfl, fin⟩⟩, fun _ => takes_off w5.1 ⟨_, rfl, bad_order w5 ⟨rfl, fin⟩⟩⟩
theorem bad_58 (hw : bdW ν) (h : ∀ ν1 : Mem, bdR ν ν1 → ∀ ν2 : Mem, ν2 = up ν1 83 6 0 → Q (some (.inl (-1000100 - ν 83 8))) ν2) : Gg E 5 M_X8_court 58 [some (.inr 83), some (.inl x1)] [.inl y0, .inr 83] ν Q := by
  refine s_X8_court_58 (takes_off hw.1 ⟨_, rfl, figure_off hw.1 hw.2.2.1 (by decide) (by decide) ⟨_, rfl, fun μ5 e5 => ?_⟩⟩)
  have b5 : bdR ν μ5 := ⟨fun k hk => by rw [e5, up_ne hk], by rw [e5, up_off (Or.inr (by decide))]⟩
  have w5 := b5.w hw
  have e8 : μ5 83 8 = ν 83 8 := by rw [b5.1 83 (by decide)]
  exact ⟨w5.2.1, fun _ => bad_89 w5 (fun ν1 b1 ν2 e2 => by rw [e8]; exact h ν1 (b5.tr b1) ν2 e2), fun _ => bad_89 w5 (fun ν1 b1 ν2 e2 => by rw [e8]; exact h ν1 (b5.tr b1) ν2 e2)⟩
end P63

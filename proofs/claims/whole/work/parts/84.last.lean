/-! The reference: all names by a figure; the pair of last. -/
set_option maxRecDepth 20000 in
theorem s_X8_isLast {E : Ex} {μ : Mem} {Q : Option Vl → Mem → Prop} {x2 : Int} {v : CV} {k : Nat} (hk : shp k = (0, 91, [])) (h : Gg E 3 M_X8_isLast 5 [some (.inr 83), some (.inr k), some (.inl x2), some (.inl 1), some (.inl 0)] [] μ Q) : Cl E 3 M_X8_isLast [.inr 83, .inr k, .inl x2] μ Q := by
  show Gg E 3 M_X8_isLast 0 [some (.inr 83), some (.inr k), some (.inl x2), none, none] [] μ Q
  refine r_iconst (q := 1) (n := 1) DM_X8_isLast_0 rfl ?_
  refine v_istoren (q := 2) (ls' := [some (.inr 83), some (.inr k), some (.inl x2), some (.inl 1), none]) DM_X8_isLast_1 rfl (by decide) rfl ?_
  refine r_iconst (q := 3) (n := 0) DM_X8_isLast_2 rfl ?_
  refine v_istore (q := 5) (ls' := [some (.inr 83), some (.inr k), some (.inl x2), some (.inl 1), some (.inl 0)]) DM_X8_isLast_3 rfl (by decide) rfl ?_
  exact h
set_option maxRecDepth 20000 in
theorem s_X8_isLast_5 {E : Ex} {μ : Mem} {Q : Option Vl → Mem → Prop} {x2 x3 x4 : Int} {v : CV} {k : Nat} (hk : shp k = (0, 91, [])) (h : inR x4 ∧ inR (μ k 2) ∧ (x4 ≥ (μ k 2) → (x3 = 0 ∨ x3 = 1) ∧ Q (some (.inl x3)) μ) ∧ (¬ x4 ≥ (μ k 2) → inR x3 ∧ (x3 = 0 → Gg E 3 M_X8_isLast 5 [some (.inr 83), some (.inr k), some (.inl x2), some (.inl 0), some (.inl (x4 + 1))] [] μ Q) ∧ (¬ x3 = 0 → inR x2 ∧ (x4 = x2 → Gg E 3 M_X8_isLast 5 [some (.inr 83), some (.inr k), some (.inl x2), some (.inl 1), some (.inl (x4 + 1))] [] μ Q) ∧ (¬ x4 = x2 → (Rel v (μ k)) ∧ (0 ≤ x4 ∧ x4 < v 0 1) ∧ ((cWait v x4 (v 0 4)) = false → Gg E 3 M_X8_isLast 5 [some (.inr 83), some (.inr k), some (.inl x2), some (.inl 1), some (.inl (x4 + 1))] [] μ Q) ∧ ((cWait v x4 (v 0 4)) = true → (0 ≤ x2 ∧ x2 < v 0 1) ∧ ((0 : Int) ≤ 0 ∧ (0 : Int) < 1000) ∧ ((cBef v x4 x2 (cTurn v (v 0 4) 0)) = false → Gg E 3 M_X8_isLast 5 [some (.inr 83), some (.inr k), some (.inl x2), some (.inl 0), some (.inl (x4 + 1))] [] μ Q) ∧ ((cBef v x4 x2 (cTurn v (v 0 4) 0)) = true → Gg E 3 M_X8_isLast 5 [some (.inr 83), some (.inr k), some (.inl x2), some (.inl 1), some (.inl (x4 + 1))] [] μ Q)))))) : Gg E 3 M_X8_isLast 5 [some (.inr 83), some (.inr k), some (.inl x2), some (.inl x3), some (.inl x4)] [] μ Q := by
  refine r_iload (q := 7) DM_X8_isLast_5 rfl rfl ?_
  refine r_aloadn (q := 8) DM_X8_isLast_7 rfl rfl ?_
  refine r_iconst (q := 9) (n := 2) DM_X8_isLast_8 rfl ?_
  refine r_iald (q := 10) DM_X8_isLast_9 rfl hk (by decide) ⟨by decide, ?_⟩
  have i1 := h.1
  replace h := h.2
  have i2 := h.1
  replace h := h.2
  refine r_icge (q := 13) (t := 55) DM_X8_isLast_10 rfl (by decide) ⟨⟨i1, i2⟩, fun cc => ?_, fun cc => ?_⟩
  · replace h := h.1 cc
    refine r_iloadn (q := 56) DM_X8_isLast_55 rfl rfl ?_
    exact r_ret (v := some (.inl x3)) ⟨DM_X8_isLast_56, Or.inr ⟨rfl, h.1⟩⟩ h.2
  · replace h := h.2 cc
    refine r_iloadn (q := 14) DM_X8_isLast_13 rfl rfl ?_
    have i3 := h.1
    replace h := h.2
    refine r_ifeq (q := 17) (t := 47) DM_X8_isLast_14 rfl (by decide) ⟨i3, fun cc => ?_, fun cc => ?_⟩
    · replace h := h.1 cc
      refine r_iconst (q := 48) (n := 0) DM_X8_isLast_47 rfl ?_
      refine v_istoren (q := 49) (ls' := [some (.inr 83), some (.inr k), some (.inl x2), some (.inl 0), some (.inl x4)]) DM_X8_isLast_48 rfl (by decide) rfl ?_
      refine v_iinc (q := 52) (ls' := [some (.inr 83), some (.inr k), some (.inl x2), some (.inl 0), some (.inl (x4 + 1))]) DM_X8_isLast_49 rfl rfl (by decide) rfl ?_
      refine r_goto (q := 5) DM_X8_isLast_52 (by decide) ?_
      exact h
    · replace h := h.2 cc
      refine r_iload (q := 19) DM_X8_isLast_17 rfl rfl ?_
      refine r_iloadn (q := 20) DM_X8_isLast_19 rfl rfl ?_
      have i4 := h.1
      replace h := h.2
      refine r_iceq (q := 23) (t := 43) DM_X8_isLast_20 rfl (by decide) ⟨⟨i1, i4⟩, fun cc => ?_, fun cc => ?_⟩
      · replace h := h.1 cc
        refine r_iconst (q := 44) (n := 1) DM_X8_isLast_43 rfl ?_
        refine r_goto (q := 48) DM_X8_isLast_44 (by decide) ?_
        refine v_istoren (q := 49) (ls' := [some (.inr 83), some (.inr k), some (.inl x2), some (.inl 1), some (.inl x4)]) DM_X8_isLast_48 rfl (by decide) rfl ?_
        refine v_iinc (q := 52) (ls' := [some (.inr 83), some (.inr k), some (.inl x2), some (.inl 1), some (.inl (x4 + 1))]) DM_X8_isLast_49 rfl rfl (by decide) rfl ?_
        refine r_goto (q := 5) DM_X8_isLast_52 (by decide) ?_
        exact h
      · replace h := h.2 cc
        refine r_aloadn (q := 24) DM_X8_isLast_23 rfl rfl ?_
        refine r_iload (q := 26) DM_X8_isLast_24 rfl rfl ?_
        have i5 := h.1
        replace h := h.2
        have i6 := h.1
        replace h := h.2
        refine r_callSi [.inr k, .inl x4] (q := 29) DM_X8_isLast_26 rfl kM_X8_waits lRX8_172 rfl (by decide) (Nat.le_of_ble_eq_true rfl) rfl (k_X8_waits hk i5 i6 ⟨_, rfl, ?_⟩)
        refine r_bbeq (q := 32) (t := 43) DM_X8_isLast_29 rfl (by decide) ⟨fun cc => ?_, fun cc => ?_⟩
        · replace h := h.1 cc
          refine r_iconst (q := 44) (n := 1) DM_X8_isLast_43 rfl ?_
          refine r_goto (q := 48) DM_X8_isLast_44 (by decide) ?_
          refine v_istoren (q := 49) (ls' := [some (.inr 83), some (.inr k), some (.inl x2), some (.inl 1), some (.inl x4)]) DM_X8_isLast_48 rfl (by decide) rfl ?_
          refine v_iinc (q := 52) (ls' := [some (.inr 83), some (.inr k), some (.inl x2), some (.inl 1), some (.inl (x4 + 1))]) DM_X8_isLast_49 rfl rfl (by decide) rfl ?_
          refine r_goto (q := 5) DM_X8_isLast_52 (by decide) ?_
          exact h
        · replace h := h.2 cc
          refine r_aloadn (q := 33) DM_X8_isLast_32 rfl rfl ?_
          refine r_iload (q := 35) DM_X8_isLast_33 rfl rfl ?_
          refine r_iloadn (q := 36) DM_X8_isLast_35 rfl rfl ?_
          refine r_iconst (q := 37) (n := 0) DM_X8_isLast_36 rfl ?_
          have i7 := h.1
          replace h := h.2
          have i8 := h.1
          replace h := h.2
          refine r_callSi [.inr k, .inl x4, .inl x2, .inl 0] (q := 40) DM_X8_isLast_37 rfl kM_X8_isBefore lRX8_179 rfl (by decide) (Nat.le_of_ble_eq_true rfl) rfl (k_X8_isBefore hk i5 i6 i7 i8 ⟨_, rfl, ?_⟩)
          refine r_bbeq (q := 43) (t := 47) DM_X8_isLast_40 rfl (by decide) ⟨fun cc => ?_, fun cc => ?_⟩
          · replace h := h.1 cc
            refine r_iconst (q := 48) (n := 0) DM_X8_isLast_47 rfl ?_
            refine v_istoren (q := 49) (ls' := [some (.inr 83), some (.inr k), some (.inl x2), some (.inl 0), some (.inl x4)]) DM_X8_isLast_48 rfl (by decide) rfl ?_
            refine v_iinc (q := 52) (ls' := [some (.inr 83), some (.inr k), some (.inl x2), some (.inl 0), some (.inl (x4 + 1))]) DM_X8_isLast_49 rfl rfl (by decide) rfl ?_
            refine r_goto (q := 5) DM_X8_isLast_52 (by decide) ?_
            exact h
          · replace h := h.2 cc
            refine r_iconst (q := 44) (n := 1) DM_X8_isLast_43 rfl ?_
            refine r_goto (q := 48) DM_X8_isLast_44 (by decide) ?_
            refine v_istoren (q := 49) (ls' := [some (.inr 83), some (.inr k), some (.inl x2), some (.inl 1), some (.inl x4)]) DM_X8_isLast_48 rfl (by decide) rfl ?_
            refine v_iinc (q := 52) (ls' := [some (.inr 83), some (.inr k), some (.inl x2), some (.inl 1), some (.inl (x4 + 1))]) DM_X8_isLast_49 rfl rfl (by decide) rfl ?_
            refine r_goto (q := 5) DM_X8_isLast_52 (by decide) ?_
            exact h
set_option maxRecDepth 20000 in
theorem s_X8_lays {E : Ex} {μ : Mem} {Q : Option Vl → Mem → Prop} {x1 x2 : Int}  (h : (0 ≤ 13 + 13 * x1 + 3 ∧ 13 + 13 * x1 + 3 < 91) ∧ Gg E 1 M_X8_lays 16 [some (.inr 83), some (.inl x1), some (.inl x2), some (.inl (μ 89 (13 + 13 * x1 + 3))), some (.inl 0), some (.inl 0), none] [] μ Q) : Cl E 1 M_X8_lays [.inr 83, .inl x1, .inl x2] μ Q := by
  show Gg E 1 M_X8_lays 0 [some (.inr 83), some (.inl x1), some (.inl x2), none, none, none, none] [] μ Q
  refine r_aloadn (q := 1) DM_X8_lays_0 rfl rfl ?_
  refine r_getR (q := 4) (r := 89) DM_X8_lays_1 rfl fRX8_25 sh_83 rfl ?_
  refine r_iloadn (q := 5) DM_X8_lays_4 rfl rfl ?_
  refine r_iconst (q := 6) (n := 3) DM_X8_lays_5 rfl ?_
  have i1 := h.1
  replace h := h.2
  refine r_callSi [.inr 89, .inl x1, .inl 3] (q := 9) DM_X8_lays_6 rfl kM_X8_of lRX8_158 rfl (by decide) (Nat.le_of_ble_eq_true rfl) rfl (k_X8_of sh_89 i1 ⟨_, rfl, ?_⟩)
  refine v_istoren (q := 10) (ls' := [some (.inr 83), some (.inl x1), some (.inl x2), some (.inl (μ 89 (13 + 13 * x1 + 3))), none, none, none]) DM_X8_lays_9 rfl (by decide) rfl ?_
  refine r_iconst (q := 11) (n := 0) DM_X8_lays_10 rfl ?_
  refine v_istore (q := 13) (ls' := [some (.inr 83), some (.inl x1), some (.inl x2), some (.inl (μ 89 (13 + 13 * x1 + 3))), some (.inl 0), none, none]) DM_X8_lays_11 rfl (by decide) rfl ?_
  refine r_iconst (q := 14) (n := 0) DM_X8_lays_13 rfl ?_
  refine v_istore (q := 16) (ls' := [some (.inr 83), some (.inl x1), some (.inl x2), some (.inl (μ 89 (13 + 13 * x1 + 3))), some (.inl 0), some (.inl 0), none]) DM_X8_lays_14 rfl (by decide) rfl ?_
  exact h
set_option maxRecDepth 20000 in
theorem s_X8_lays_16 {E : Ex} {μ : Mem} {Q : Option Vl → Mem → Prop} {x1 x2 x3 x4 x5 : Int}  (h : inR x5 ∧ inR x3 ∧ (x5 ≥ x3 → Q (some (.inl x4)) μ) ∧ (¬ x5 ≥ x3 → Cl E 0 M_X8_power [.inl 8, .inl ((x3 - 1) - x5)] μ (fun vv μ3 => ∃ v4, vv = some (.inl v4) ∧ (inR v4 ∧ v4 ≠ 0) ∧ (0 ≤ (((13 + (13 * x1)) + 4) + x5) ∧ (((13 + (13 * x1)) + 4) + x5) < 91) ∧ ∀ μ5 : Mem, μ5 = up μ3 91 (((13 + (13 * x1)) + 4) + x5) (jrem (jdiv x2 v4) 8) → (0 ≤ 13 + 13 * x1 + (4 + x5) ∧ 13 + 13 * x1 + (4 + x5) < 91) ∧ inR (jrem (jdiv x2 v4) 8) ∧ inR (μ5 89 (13 + 13 * x1 + (4 + x5))) ∧ ((jrem (jdiv x2 v4) 8) ≠ (μ5 89 (13 + 13 * x1 + (4 + x5))) → Gg E 1 M_X8_lays 16 [some (.inr 83), some (.inl x1), some (.inl x2), some (.inl x3), some (.inl (x4 + 1)), some (.inl (x5 + 1)), none] [] μ5 Q) ∧ ((jrem (jdiv x2 v4) 8) = (μ5 89 (13 + 13 * x1 + (4 + x5))) → Gg E 1 M_X8_lays 16 [some (.inr 83), some (.inl x1), some (.inl x2), some (.inl x3), some (.inl (x4 + 0)), some (.inl (x5 + 1)), none] [] μ5 Q)))) : Gg E 1 M_X8_lays 16 [some (.inr 83), some (.inl x1), some (.inl x2), some (.inl x3), some (.inl x4), some (.inl x5), none] [] μ Q := by
  refine r_iload (q := 18) DM_X8_lays_16 rfl rfl ?_
  refine r_iloadn (q := 19) DM_X8_lays_18 rfl rfl ?_
  have i1 := h.1
  replace h := h.2
  have i2 := h.1
  replace h := h.2
  refine r_icge (q := 22) (t := 92) DM_X8_lays_19 rfl (by decide) ⟨⟨i1, i2⟩, fun cc => ?_, fun cc => ?_⟩
  · replace h := h.1 cc
    refine r_iload (q := 94) DM_X8_lays_92 rfl rfl ?_
    exact r_ret (v := some (.inl x4)) ⟨DM_X8_lays_94, Or.inl rfl⟩ h
  · replace h := h.2 cc
    refine r_iloadn (q := 23) DM_X8_lays_22 rfl rfl ?_
    refine r_bipush (q := 25) (n := 8) DM_X8_lays_23 rfl (by decide) ?_
    refine r_iloadn (q := 26) DM_X8_lays_25 rfl rfl ?_
    refine r_iconst (q := 27) (n := 1) DM_X8_lays_26 rfl ?_
    refine r_isub (q := 28) DM_X8_lays_27 rfl ?_
    refine r_iload (q := 30) DM_X8_lays_28 rfl rfl ?_
    refine r_isub (q := 31) DM_X8_lays_30 rfl ?_
    refine r_callSi [.inl 8, .inl ((x3 - 1) - x5)] (q := 34) DM_X8_lays_31 rfl kM_X8_power lRX8_227 rfl (by decide) (Nat.le_of_ble_eq_true rfl) rfl (Cl.imp h (fun vv μ3 h => ?_))
    obtain ⟨v4, hv, h⟩ := h
    refine ⟨v4, hv, ?_⟩
    refine r_idiv (q := 35) DM_X8_lays_34 rfl h.1 ?_
    replace h := h.2
    refine r_bipush (q := 37) (n := 8) DM_X8_lays_35 rfl (by decide) ?_
    refine r_irem (q := 38) DM_X8_lays_37 rfl (by decide) ?_
    refine v_istore (q := 40) (ls' := [some (.inr 83), some (.inl x1), some (.inl x2), some (.inl x3), some (.inl x4), some (.inl x5), some (.inl (jrem (jdiv x2 v4) 8))]) DM_X8_lays_38 rfl (by decide) rfl ?_
    refine r_aloadn (q := 41) DM_X8_lays_40 rfl rfl ?_
    refine r_getR (q := 44) (r := 91) DM_X8_lays_41 rfl fRX8_31 sh_83 rfl ?_
    refine r_bipush (q := 46) (n := 13) DM_X8_lays_44 rfl (by decide) ?_
    refine r_bipush (q := 48) (n := 13) DM_X8_lays_46 rfl (by decide) ?_
    refine r_iloadn (q := 49) DM_X8_lays_48 rfl rfl ?_
    refine r_imul (q := 50) DM_X8_lays_49 rfl ?_
    refine r_iadd (q := 51) DM_X8_lays_50 rfl ?_
    refine r_iconst (q := 52) (n := 4) DM_X8_lays_51 rfl ?_
    refine r_iadd (q := 53) DM_X8_lays_52 rfl ?_
    refine r_iload (q := 55) DM_X8_lays_53 rfl rfl ?_
    refine r_iadd (q := 56) DM_X8_lays_55 rfl ?_
    refine r_iload (q := 58) DM_X8_lays_56 rfl rfl ?_
    refine v_iast (q := 59) DM_X8_lays_58 rfl sh_91 (by decide) ⟨h.1, fun μ5 e5 => ?_⟩
    have i6 := h.1
    replace h := h.2 μ5 e5
    refine r_iload (q := 61) DM_X8_lays_59 rfl rfl ?_
    refine r_iload (q := 63) DM_X8_lays_61 rfl rfl ?_
    refine r_aloadn (q := 64) DM_X8_lays_63 rfl rfl ?_
    refine r_getR (q := 67) (r := 89) DM_X8_lays_64 rfl fRX8_25 sh_83 rfl ?_
    refine r_iloadn (q := 68) DM_X8_lays_67 rfl rfl ?_
    refine r_iconst (q := 69) (n := 4) DM_X8_lays_68 rfl ?_
    refine r_iload (q := 71) DM_X8_lays_69 rfl rfl ?_
    refine r_iadd (q := 72) DM_X8_lays_71 rfl ?_
    have i7 := h.1
    replace h := h.2
    refine r_callSi [.inr 89, .inl x1, .inl (4 + x5)] (q := 75) DM_X8_lays_72 rfl kM_X8_of lRX8_158 rfl (by decide) (Nat.le_of_ble_eq_true rfl) rfl (k_X8_of sh_89 i7 ⟨_, rfl, ?_⟩)
    have i8 := h.1
    replace h := h.2
    have i9 := h.1
    replace h := h.2
    refine r_icne (q := 78) (t := 82) DM_X8_lays_75 rfl (by decide) ⟨⟨i8, i9⟩, fun cc => ?_, fun cc => ?_⟩
    · replace h := h.1 cc
      refine r_iconst (q := 83) (n := 1) DM_X8_lays_82 rfl ?_
      refine r_iadd (q := 84) DM_X8_lays_83 rfl ?_
      refine v_istore (q := 86) (ls' := [some (.inr 83), some (.inl x1), some (.inl x2), some (.inl x3), some (.inl (x4 + 1)), some (.inl x5), some (.inl (jrem (jdiv x2 v4) 8))]) DM_X8_lays_84 rfl (by decide) rfl ?_
      refine v_iinc (q := 89) (ls' := [some (.inr 83), some (.inl x1), some (.inl x2), some (.inl x3), some (.inl (x4 + 1)), some (.inl (x5 + 1)), some (.inl (jrem (jdiv x2 v4) 8))]) DM_X8_lays_86 rfl rfl (by decide) rfl ?_
      refine r_goto (q := 16) DM_X8_lays_89 (by decide) ?_
      exact Gg.weak [true, true, true, true, true, true, false] h
    · replace h := h.2 cc
      refine r_iconst (q := 79) (n := 0) DM_X8_lays_78 rfl ?_
      refine r_goto (q := 83) DM_X8_lays_79 (by decide) ?_
      refine r_iadd (q := 84) DM_X8_lays_83 rfl ?_
      refine v_istore (q := 86) (ls' := [some (.inr 83), some (.inl x1), some (.inl x2), some (.inl x3), some (.inl (x4 + 0)), some (.inl x5), some (.inl (jrem (jdiv x2 v4) 8))]) DM_X8_lays_84 rfl (by decide) rfl ?_
      refine v_iinc (q := 89) (ls' := [some (.inr 83), some (.inl x1), some (.inl x2), some (.inl x3), some (.inl (x4 + 0)), some (.inl (x5 + 1)), some (.inl (jrem (jdiv x2 v4) 8))]) DM_X8_lays_86 rfl rfl (by decide) rfl ?_
      refine r_goto (q := 16) DM_X8_lays_89 (by decide) ?_
      exact Gg.weak [true, true, true, true, true, true, false] h
set_option maxRecDepth 20000 in
theorem s_X7_last {E : Ex} {μ : Mem} {Q : Option Vl → Mem → Prop} {x1 x2 : Int}  (h : inR x1 ∧ inR (μ 4 1) ∧ (¬ (0 ≤ x1 ∧ x1 < μ 4 1) → Q (some (.inl (-1000001))) μ) ∧ ((0 ≤ x1 ∧ x1 < μ 4 1) → inR x2 ∧ (x2 = (-1) → Gg E 22 M_X7_last 32 [some (.inr 0), some (.inl x1), some (.inl x2), none] [] μ Q) ∧ (¬ x2 = (-1) → (0 ≤ x1 ∧ x1 < 6) ∧ inR (μ (4 + 4) x1) ∧ ((0 ≤ x2 ∧ x2 < (μ (4 + 4) x1)) → Gg E 22 M_X7_last 32 [some (.inr 0), some (.inl x1), some (.inl x2), none] [] μ Q) ∧ (¬ (0 ≤ x2 ∧ x2 < (μ (4 + 4) x1)) → Q (some (.inl (-1000001))) μ)))) : Cl E 22 M_X7_last [.inr 0, .inl x1, .inl x2] μ Q := by
  show Gg E 22 M_X7_last 0 [some (.inr 0), some (.inl x1), some (.inl x2), none] [] μ Q
  refine r_aloadn (q := 1) DM_X7_last_0 rfl rfl ?_
  refine r_iloadn (q := 2) DM_X7_last_1 rfl rfl ?_
  have i1 := h.1
  replace h := h.2
  have i2 := h.1
  replace h := h.2
  refine r_callVi [.inl x1] (q := 5) DM_X7_last_2 rfl kM_X7_isPerson lRX7_187 sh_0 rfl rfl (by decide) (Nat.le_of_ble_eq_true rfl) rfl (k_X7_isPerson i1 i2 ⟨_, rfl, ?_⟩)
  refine r_bieq (q := 8) (t := 29) DM_X7_last_5 rfl (by decide) ⟨fun cc => ?_, fun cc => ?_⟩
  · replace h := h.1 cc
    refine r_ldc (q := 31) (n := (-1000001)) DM_X7_last_29 rfl nRX7_69 ?_
    exact r_ret (v := some (.inl (-1000001))) ⟨DM_X7_last_31, Or.inl rfl⟩ h
  · replace h := h.2 cc
    refine r_iloadn (q := 9) DM_X7_last_8 rfl rfl ?_
    refine r_iconst (q := 10) (n := (-1)) DM_X7_last_9 rfl ?_
    have i3 := h.1
    replace h := h.2
    refine r_iceq (q := 13) (t := 32) DM_X7_last_10 rfl (by decide) ⟨⟨i3, (by decide)⟩, fun cc => ?_, fun cc => ?_⟩
    · replace h := h.1 cc
      exact h
    · replace h := h.2 cc
      refine r_iloadn (q := 14) DM_X7_last_13 rfl rfl ?_
      refine r_aloadn (q := 15) DM_X7_last_14 rfl rfl ?_
      refine r_getR (q := 18) (r := 4) DM_X7_last_15 rfl fRX7_25 sh_0 rfl ?_
      refine r_getR (q := 21) (r := 4 + 4) DM_X7_last_18 rfl fRX7_197 (co0 cK_4) rfl ?_
      refine r_iloadn (q := 22) DM_X7_last_21 rfl rfl ?_
      refine r_iald (q := 23) DM_X7_last_22 rfl (co4 cK_4) (by decide) ⟨h.1, ?_⟩
      have i4 := h.1
      replace h := h.2
      have i5 := h.1
      replace h := h.2
      refine r_callSi [.inl x2, .inl (μ (4 + 4) x1)] (q := 26) DM_X7_last_23 rfl kM_X7_isIn lRX7_65 rfl (by decide) (Nat.le_of_ble_eq_true rfl) rfl (k_X7_isIn i3 i5 ⟨_, rfl, ?_⟩)
      refine r_bine (q := 29) (t := 32) DM_X7_last_26 rfl (by decide) ⟨fun cc => ?_, fun cc => ?_⟩
      · replace h := h.1 cc
        exact h
      · replace h := h.2 cc
        refine r_ldc (q := 31) (n := (-1000001)) DM_X7_last_29 rfl nRX7_69 ?_
        exact r_ret (v := some (.inl (-1000001))) ⟨DM_X7_last_31, Or.inl rfl⟩ h
set_option maxRecDepth 20000 in
theorem s_X7_last_32 {E : Ex} {μ : Mem} {Q : Option Vl → Mem → Prop} {x1 x2 : Int}  (h : (RgC μ 4) ∧ (0 ≤ x1 ∧ x1 < 6) ∧ inR (μ 4 4) ∧ ((cWait (cv μ 4) x1 (μ 4 4)) = true → Cl E 21 M_X5_findFewest [.inr 30, .inr 4, .inl x1] μ (fun vv μ4 => ∃ v5, vv = some (.inl v5) ∧ inR x2 ∧ (x2 = (-1) → Q (some (.inl v5)) μ4) ∧ (¬ x2 = (-1) → inR v5 ∧ (v5 ≠ (-1000000) → (0 ≤ x1 * 4 + x2 ∧ x1 * 4 + x2 < 24) ∧ Q (some (.inl (μ4 (31 + 5) (x1 * 4 + x2)))) μ4) ∧ (v5 = (-1000000) → Q (some (.inl v5)) μ4)))) ∧ ((cWait (cv μ 4) x1 (μ 4 4)) = false → Q (some (.inl (-1000000))) μ)) : Gg E 22 M_X7_last 32 [some (.inr 0), some (.inl x1), some (.inl x2), none] [] μ Q := by
  refine r_aloadn (q := 33) DM_X7_last_32 rfl rfl ?_
  refine r_getR (q := 36) (r := 4) DM_X7_last_33 rfl fRX7_25 sh_0 rfl ?_
  refine r_iloadn (q := 37) DM_X7_last_36 rfl rfl ?_
  refine r_aloadn (q := 38) DM_X7_last_37 rfl rfl ?_
  refine r_getR (q := 41) (r := 4) DM_X7_last_38 rfl fRX7_25 sh_0 rfl ?_
  refine v_getI (q := 44) (ji := 4) DM_X7_last_41 rfl fRX7_145 (co0 cK_4) rfl rfl ?_
  have i1 := h.1
  replace h := h.2
  have i2 := h.1
  replace h := h.2
  have i3 := h.1
  replace h := h.2
  refine r_callVi [.inl x1, .inl (μ 4 4)] (q := 47) DM_X7_last_44 rfl kM_X2_waitsOn lRX7_167 (co0 cK_4) rfl rfl (by decide) (Nat.le_of_ble_eq_true rfl) rfl (k_X2_waitsOn cK_4 i1 i2 i3 ⟨_, rfl, ?_⟩)
  refine r_bbne (q := 50) (t := 53) DM_X7_last_47 rfl (by decide) ⟨fun cc => ?_, fun cc => ?_⟩
  · replace h := h.1 cc
    refine r_aloadn (q := 54) DM_X7_last_53 rfl rfl ?_
    refine r_getR (q := 57) (r := 30) DM_X7_last_54 rfl fRX7_46 sh_0 rfl ?_
    refine r_aloadn (q := 58) DM_X7_last_57 rfl rfl ?_
    refine r_getR (q := 61) (r := 4) DM_X7_last_58 rfl fRX7_25 sh_0 rfl ?_
    refine r_iloadn (q := 62) DM_X7_last_61 rfl rfl ?_
    refine r_callVi [.inr 4, .inl x1] (q := 65) DM_X7_last_62 rfl kM_X5_findFewest lRX7_230 sh_30 rfl rfl (by decide) (Nat.le_of_ble_eq_true rfl) rfl (Cl.imp h (fun vv μ4 h => ?_))
    obtain ⟨v5, hv, h⟩ := h
    refine ⟨v5, hv, ?_⟩
    refine v_istoren (q := 66) (ls' := [some (.inr 0), some (.inl x1), some (.inl x2), some (.inl v5)]) DM_X7_last_65 rfl (by decide) rfl ?_
    refine r_iloadn (q := 67) DM_X7_last_66 rfl rfl ?_
    refine r_iconst (q := 68) (n := (-1)) DM_X7_last_67 rfl ?_
    have i6 := h.1
    replace h := h.2
    refine r_iceq (q := 71) (t := 77) DM_X7_last_68 rfl (by decide) ⟨⟨i6, (by decide)⟩, fun cc => ?_, fun cc => ?_⟩
    · replace h := h.1 cc
      refine r_iloadn (q := 78) DM_X7_last_77 rfl rfl ?_
      exact r_ret (v := some (.inl v5)) ⟨DM_X7_last_78, Or.inl rfl⟩ h
    · replace h := h.2 cc
      refine r_iloadn (q := 72) DM_X7_last_71 rfl rfl ?_
      refine r_ldc (q := 74) (n := (-1000000)) DM_X7_last_72 rfl nRX7_209 ?_
      have i7 := h.1
      replace h := h.2
      refine r_icne (q := 77) (t := 79) DM_X7_last_74 rfl (by decide) ⟨⟨i7, (by decide)⟩, fun cc => ?_, fun cc => ?_⟩
      · replace h := h.1 cc
        refine r_aloadn (q := 80) DM_X7_last_79 rfl rfl ?_
        refine r_getR (q := 83) (r := 30) DM_X7_last_80 rfl fRX7_46 sh_0 rfl ?_
        refine r_getR (q := 86) (r := 31) DM_X7_last_83 rfl fRX7_234 sh_30 rfl ?_
        refine r_iloadn (q := 87) DM_X7_last_86 rfl rfl ?_
        refine r_iloadn (q := 88) DM_X7_last_87 rfl rfl ?_
        have i8 := h.1
        replace h := h.2
        refine r_callVi [.inl x1, .inl x2] (q := 91) DM_X7_last_88 rfl kM_X2_letterOf lRX7_160 (co0 cK_31) rfl rfl (by decide) (Nat.le_of_ble_eq_true rfl) rfl (k_X2_letterOf cK_31 i8 ⟨_, rfl, ?_⟩)
        exact r_ret (v := some (.inl (μ4 (31 + 5) (x1 * 4 + x2)))) ⟨DM_X7_last_91, Or.inl rfl⟩ h
      · replace h := h.2 cc
        refine r_iloadn (q := 78) DM_X7_last_77 rfl rfl ?_
        exact r_ret (v := some (.inl v5)) ⟨DM_X7_last_78, Or.inl rfl⟩ h
  · replace h := h.2 cc
    refine r_ldc (q := 52) (n := (-1000000)) DM_X7_last_50 rfl nRX7_209 ?_
    exact r_ret (v := some (.inl (-1000000))) ⟨DM_X7_last_52, Or.inl rfl⟩ h
set_option maxRecDepth 20000 in
theorem s_X8_last {E : Ex} {μ : Mem} {Q : Option Vl → Mem → Prop} {x1 x2 : Int} {v : CV}  (h : inR x1 ∧ inR (μ 89 2 - 1) ∧ (¬ (0 ≤ x1 ∧ x1 ≤ μ 89 2 - 1) → Q (some (.inl (-1000001))) μ) ∧ ((0 ≤ x1 ∧ x1 ≤ μ 89 2 - 1) → inR x2 ∧ (x2 = (-1) → Gg E 4 M_X8_last 25 [some (.inr 83), some (.inl x1), some (.inl x2), none, none, none, none] [] μ Q) ∧ (¬ x2 = (-1) → Cl E 2 M_X8_isPlaceOf [.inr 83, .inl x1, .inl x2] μ (fun vv μ4 => ∃ v5, vv = some (.inl (bi v5)) ∧ (v5 = true → Gg E 4 M_X8_last 25 [some (.inr 83), some (.inl x1), some (.inl x2), none, none, none, none] [] μ4 Q) ∧ (v5 = false → Q (some (.inl (-1000001))) μ4))))) : Cl E 4 M_X8_last [.inr 83, .inl x1, .inl x2] μ Q := by
  show Gg E 4 M_X8_last 0 [some (.inr 83), some (.inl x1), some (.inl x2), none, none, none, none] [] μ Q
  refine r_aloadn (q := 1) DM_X8_last_0 rfl rfl ?_
  refine r_iloadn (q := 2) DM_X8_last_1 rfl rfl ?_
  have i1 := h.1
  replace h := h.2
  have i2 := h.1
  replace h := h.2
  refine r_callVi [.inl x1] (q := 5) DM_X8_last_2 rfl kM_X8_isPerson lRX8_210 sh_83 rfl rfl (by decide) (Nat.le_of_ble_eq_true rfl) rfl (k_X8_isPerson i1 i2 ⟨_, rfl, ?_⟩)
  refine r_bieq (q := 8) (t := 22) DM_X8_last_5 rfl (by decide) ⟨fun cc => ?_, fun cc => ?_⟩
  · replace h := h.1 cc
    refine r_ldc (q := 24) (n := (-1000001)) DM_X8_last_22 rfl nRX8_73 ?_
    exact r_ret (v := some (.inl (-1000001))) ⟨DM_X8_last_24, Or.inl rfl⟩ h
  · replace h := h.2 cc
    refine r_iloadn (q := 9) DM_X8_last_8 rfl rfl ?_
    refine r_iconst (q := 10) (n := (-1)) DM_X8_last_9 rfl ?_
    have i3 := h.1
    replace h := h.2
    refine r_iceq (q := 13) (t := 25) DM_X8_last_10 rfl (by decide) ⟨⟨i3, (by decide)⟩, fun cc => ?_, fun cc => ?_⟩
    · replace h := h.1 cc
      exact h
    · replace h := h.2 cc
      refine r_aloadn (q := 14) DM_X8_last_13 rfl rfl ?_
      refine r_iloadn (q := 15) DM_X8_last_14 rfl rfl ?_
      refine r_iloadn (q := 16) DM_X8_last_15 rfl rfl ?_
      refine r_callVi [.inl x1, .inl x2] (q := 19) DM_X8_last_16 rfl kM_X8_isPlaceOf lRX8_213 sh_83 rfl rfl (by decide) (Nat.le_of_ble_eq_true rfl) rfl (Cl.imp h (fun vv μ4 h => ?_))
      obtain ⟨v5, hv, h⟩ := h
      refine ⟨_, hv, ?_⟩
      refine r_bbne (q := 22) (t := 25) DM_X8_last_19 rfl (by decide) ⟨fun cc => ?_, fun cc => ?_⟩
      · replace h := h.1 cc
        exact h
      · replace h := h.2 cc
        refine r_ldc (q := 24) (n := (-1000001)) DM_X8_last_22 rfl nRX8_73 ?_
        exact r_ret (v := some (.inl (-1000001))) ⟨DM_X8_last_24, Or.inl rfl⟩ h
set_option maxRecDepth 20000 in
theorem s_X8_last_25 {E : Ex} {μ : Mem} {Q : Option Vl → Mem → Prop} {x1 x2 : Int} {v : CV}  (h : (Rel v (μ 89)) ∧ (0 ≤ x1 ∧ x1 < v 0 1) ∧ ((cWait v x1 (v 0 4)) = true → Cl E 0 M_X8_copies [.inr 89, .inl 0, .inr 91, .inl 0] μ (fun vv μ3 => vv = none ∧ Gg E 4 M_X8_last 61 [some (.inr 83), some (.inl x1), some (.inl x2), some (.inl (-1000000)), some (.inl 5), some (.inl 0), none] [] μ3 Q)) ∧ ((cWait v x1 (v 0 4)) = false → Q (some (.inl (-1000000))) μ)) : Gg E 4 M_X8_last 25 [some (.inr 83), some (.inl x1), some (.inl x2), none, none, none, none] [] μ Q := by
  refine r_aloadn (q := 26) DM_X8_last_25 rfl rfl ?_
  refine r_getR (q := 29) (r := 89) DM_X8_last_26 rfl fRX8_25 sh_83 rfl ?_
  refine r_iloadn (q := 30) DM_X8_last_29 rfl rfl ?_
  have i1 := h.1
  replace h := h.2
  have i2 := h.1
  replace h := h.2
  refine r_callSi [.inr 89, .inl x1] (q := 33) DM_X8_last_30 rfl kM_X8_waits lRX8_172 rfl (by decide) (Nat.le_of_ble_eq_true rfl) rfl (k_X8_waits sh_89 i1 i2 ⟨_, rfl, ?_⟩)
  refine r_bbne (q := 36) (t := 39) DM_X8_last_33 rfl (by decide) ⟨fun cc => ?_, fun cc => ?_⟩
  · replace h := h.1 cc
    refine r_aloadn (q := 40) DM_X8_last_39 rfl rfl ?_
    refine r_getR (q := 43) (r := 89) DM_X8_last_40 rfl fRX8_25 sh_83 rfl ?_
    refine r_iconst (q := 44) (n := 0) DM_X8_last_43 rfl ?_
    refine r_aloadn (q := 45) DM_X8_last_44 rfl rfl ?_
    refine r_getR (q := 48) (r := 91) DM_X8_last_45 rfl fRX8_31 sh_83 rfl ?_
    refine r_iconst (q := 49) (n := 0) DM_X8_last_48 rfl ?_
    refine r_callSv [.inr 89, .inl 0, .inr 91, .inl 0] (q := 52) DM_X8_last_49 rfl kM_X8_copies lRX8_151 rfl (by decide) (Nat.le_of_ble_eq_true rfl) rfl (Cl.imp h (fun vv μ3 h => ?_))
    obtain ⟨hv, h⟩ := h
    refine ⟨hv, ?_⟩
    refine r_ldc (q := 54) (n := (-1000000)) DM_X8_last_52 rfl nRX8_59 ?_
    refine v_istoren (q := 55) (ls' := [some (.inr 83), some (.inl x1), some (.inl x2), some (.inl (-1000000)), none, none, none]) DM_X8_last_54 rfl (by decide) rfl ?_
    refine r_iconst (q := 56) (n := 5) DM_X8_last_55 rfl ?_
    refine v_istore (q := 58) (ls' := [some (.inr 83), some (.inl x1), some (.inl x2), some (.inl (-1000000)), some (.inl 5), none, none]) DM_X8_last_56 rfl (by decide) rfl ?_
    refine r_iconst (q := 59) (n := 0) DM_X8_last_58 rfl ?_
    refine v_istore (q := 61) (ls' := [some (.inr 83), some (.inl x1), some (.inl x2), some (.inl (-1000000)), some (.inl 5), some (.inl 0), none]) DM_X8_last_59 rfl (by decide) rfl ?_
    exact h
  · replace h := h.2 cc
    refine r_ldc (q := 38) (n := (-1000000)) DM_X8_last_36 rfl nRX8_59 ?_
    exact r_ret (v := some (.inl (-1000000))) ⟨DM_X8_last_38, Or.inl rfl⟩ h
set_option maxRecDepth 20000 in
theorem s_X8_last_61 {E : Ex} {μ : Mem} {Q : Option Vl → Mem → Prop} {x1 x2 x3 x4 x5 : Int} {v : CV}  (h : (0 ≤ 13 + 13 * x1 + 3 ∧ 13 + 13 * x1 + 3 < 91) ∧ Cl E 0 M_X8_power [.inl 8, .inl (μ 89 (13 + 13 * x1 + 3))] μ (fun vv μ2 => ∃ v3, vv = some (.inl v3) ∧ inR x5 ∧ inR v3 ∧ (x5 ≥ v3 → inR x3 ∧ (x3 ≠ (-1000000) → inR x2 ∧ (x2 ≠ (-1) → Cl E 0 M_X8_power [.inl 8, .inl (((μ2 89 (13 + 13 * x1 + 3)) - 1) - x2)] μ2 (fun vv μ8 => ∃ v9, vv = some (.inl v9) ∧ (inR v9 ∧ v9 ≠ 0) ∧ Q (some (.inl (jrem (jdiv x3 v9) 8))) μ8)) ∧ (x2 = (-1) → Q (some (.inl x4)) μ2)) ∧ (x3 = (-1000000) → Q (some (.inl (-1000000))) μ2)) ∧ (¬ x5 ≥ v3 → Cl E 1 M_X8_lays [.inr 83, .inl x1, .inl x5] μ2 (fun vv μ10 => ∃ v11, vv = some (.inl v11) ∧ inR v11 ∧ inR x4 ∧ (v11 ≥ x4 → Gg E 4 M_X8_last 61 [some (.inr 83), some (.inl x1), some (.inl x2), some (.inl x3), some (.inl x4), some (.inl (x5 + 1)), none] [] μ10 Q) ∧ (¬ v11 ≥ x4 → Cl E 3 M_X8_isLast [.inr 83, .inr 91, .inl x1] μ10 (fun vv μ14 => ∃ v15, vv = some (.inl (bi v15)) ∧ (v15 = false → Gg E 4 M_X8_last 61 [some (.inr 83), some (.inl x1), some (.inl x2), some (.inl x3), some (.inl x4), some (.inl (x5 + 1)), none] [] μ14 Q) ∧ (v15 = true → Gg E 4 M_X8_last 61 [some (.inr 83), some (.inl x1), some (.inl x2), some (.inl x5), some (.inl v11), some (.inl (x5 + 1)), none] [] μ14 Q))))))) : Gg E 4 M_X8_last 61 [some (.inr 83), some (.inl x1), some (.inl x2), some (.inl x3), some (.inl x4), some (.inl x5), none] [] μ Q := by
  refine r_iload (q := 63) DM_X8_last_61 rfl rfl ?_
  refine r_bipush (q := 65) (n := 8) DM_X8_last_63 rfl (by decide) ?_
  refine r_aloadn (q := 66) DM_X8_last_65 rfl rfl ?_
  refine r_getR (q := 69) (r := 89) DM_X8_last_66 rfl fRX8_25 sh_83 rfl ?_
  refine r_iloadn (q := 70) DM_X8_last_69 rfl rfl ?_
  refine r_iconst (q := 71) (n := 3) DM_X8_last_70 rfl ?_
  have i1 := h.1
  replace h := h.2
  refine r_callSi [.inr 89, .inl x1, .inl 3] (q := 74) DM_X8_last_71 rfl kM_X8_of lRX8_158 rfl (by decide) (Nat.le_of_ble_eq_true rfl) rfl (k_X8_of sh_89 i1 ⟨_, rfl, ?_⟩)
  refine r_callSi [.inl 8, .inl (μ 89 (13 + 13 * x1 + 3))] (q := 77) DM_X8_last_74 rfl kM_X8_power lRX8_227 rfl (by decide) (Nat.le_of_ble_eq_true rfl) rfl (Cl.imp h (fun vv μ2 h => ?_))
  obtain ⟨v3, hv, h⟩ := h
  refine ⟨v3, hv, ?_⟩
  have i4 := h.1
  replace h := h.2
  have i5 := h.1
  replace h := h.2
  refine r_icge (q := 80) (t := 121) DM_X8_last_77 rfl (by decide) ⟨⟨i4, i5⟩, fun cc => ?_, fun cc => ?_⟩
  · replace h := h.1 cc
    refine r_iloadn (q := 122) DM_X8_last_121 rfl rfl ?_
    refine r_ldc (q := 124) (n := (-1000000)) DM_X8_last_122 rfl nRX8_59 ?_
    have i6 := h.1
    replace h := h.2
    refine r_icne (q := 127) (t := 130) DM_X8_last_124 rfl (by decide) ⟨⟨i6, (by decide)⟩, fun cc => ?_, fun cc => ?_⟩
    · replace h := h.1 cc
      refine r_iloadn (q := 131) DM_X8_last_130 rfl rfl ?_
      refine r_iconst (q := 132) (n := (-1)) DM_X8_last_131 rfl ?_
      have i7 := h.1
      replace h := h.2
      refine r_icne (q := 135) (t := 140) DM_X8_last_132 rfl (by decide) ⟨⟨i7, (by decide)⟩, fun cc => ?_, fun cc => ?_⟩
      · replace h := h.1 cc
        refine r_iloadn (q := 141) DM_X8_last_140 rfl rfl ?_
        refine r_bipush (q := 143) (n := 8) DM_X8_last_141 rfl (by decide) ?_
        refine r_aloadn (q := 144) DM_X8_last_143 rfl rfl ?_
        refine r_getR (q := 147) (r := 89) DM_X8_last_144 rfl fRX8_25 sh_83 rfl ?_
        refine r_iloadn (q := 148) DM_X8_last_147 rfl rfl ?_
        refine r_iconst (q := 149) (n := 3) DM_X8_last_148 rfl ?_
        refine r_callSi [.inr 89, .inl x1, .inl 3] (q := 152) DM_X8_last_149 rfl kM_X8_of lRX8_158 rfl (by decide) (Nat.le_of_ble_eq_true rfl) rfl (k_X8_of sh_89 i1 ⟨_, rfl, ?_⟩)
        refine r_iconst (q := 153) (n := 1) DM_X8_last_152 rfl ?_
        refine r_isub (q := 154) DM_X8_last_153 rfl ?_
        refine r_iloadn (q := 155) DM_X8_last_154 rfl rfl ?_
        refine r_isub (q := 156) DM_X8_last_155 rfl ?_
        refine r_callSi [.inl 8, .inl (((μ2 89 (13 + 13 * x1 + 3)) - 1) - x2)] (q := 159) DM_X8_last_156 rfl kM_X8_power lRX8_227 rfl (by decide) (Nat.le_of_ble_eq_true rfl) rfl (Cl.imp h (fun vv μ8 h => ?_))
        obtain ⟨v9, hv, h⟩ := h
        refine ⟨v9, hv, ?_⟩
        refine r_idiv (q := 160) DM_X8_last_159 rfl h.1 ?_
        replace h := h.2
        refine r_bipush (q := 162) (n := 8) DM_X8_last_160 rfl (by decide) ?_
        refine r_irem (q := 163) DM_X8_last_162 rfl (by decide) ?_
        exact r_ret (v := some (.inl (jrem (jdiv x3 v9) 8))) ⟨DM_X8_last_163, Or.inl rfl⟩ h
      · replace h := h.2 cc
        refine r_iload (q := 137) DM_X8_last_135 rfl rfl ?_
        refine r_goto (q := 163) DM_X8_last_137 (by decide) ?_
        exact r_ret (v := some (.inl x4)) ⟨DM_X8_last_163, Or.inl rfl⟩ h
    · replace h := h.2 cc
      refine r_ldc (q := 129) (n := (-1000000)) DM_X8_last_127 rfl nRX8_59 ?_
      exact r_ret (v := some (.inl (-1000000))) ⟨DM_X8_last_129, Or.inl rfl⟩ h
  · replace h := h.2 cc
    refine r_aloadn (q := 81) DM_X8_last_80 rfl rfl ?_
    refine r_iloadn (q := 82) DM_X8_last_81 rfl rfl ?_
    refine r_iload (q := 84) DM_X8_last_82 rfl rfl ?_
    refine r_callVi [.inl x1, .inl x5] (q := 87) DM_X8_last_84 rfl kM_X8_lays lRX8_230 sh_83 rfl rfl (by decide) (Nat.le_of_ble_eq_true rfl) rfl (Cl.imp h (fun vv μ10 h => ?_))
    obtain ⟨v11, hv, h⟩ := h
    refine ⟨v11, hv, ?_⟩
    refine v_istore (q := 89) (ls' := [some (.inr 83), some (.inl x1), some (.inl x2), some (.inl x3), some (.inl x4), some (.inl x5), some (.inl v11)]) DM_X8_last_87 rfl (by decide) rfl ?_
    refine r_iload (q := 91) DM_X8_last_89 rfl rfl ?_
    refine r_iload (q := 93) DM_X8_last_91 rfl rfl ?_
    have i12 := h.1
    replace h := h.2
    have i13 := h.1
    replace h := h.2
    refine r_icge (q := 96) (t := 115) DM_X8_last_93 rfl (by decide) ⟨⟨i12, i13⟩, fun cc => ?_, fun cc => ?_⟩
    · replace h := h.1 cc
      refine v_iinc (q := 118) (ls' := [some (.inr 83), some (.inl x1), some (.inl x2), some (.inl x3), some (.inl x4), some (.inl (x5 + 1)), some (.inl v11)]) DM_X8_last_115 rfl rfl (by decide) rfl ?_
      refine r_goto (q := 61) DM_X8_last_118 (by decide) ?_
      exact Gg.weak [true, true, true, true, true, true, false] h
    · replace h := h.2 cc
      refine r_aloadn (q := 97) DM_X8_last_96 rfl rfl ?_
      refine r_aloadn (q := 98) DM_X8_last_97 rfl rfl ?_
      refine r_getR (q := 101) (r := 91) DM_X8_last_98 rfl fRX8_31 sh_83 rfl ?_
      refine r_iloadn (q := 102) DM_X8_last_101 rfl rfl ?_
      refine r_callVi [.inr 91, .inl x1] (q := 105) DM_X8_last_102 rfl kM_X8_isLast lRX8_233 sh_83 rfl rfl (by decide) (Nat.le_of_ble_eq_true rfl) rfl (Cl.imp h (fun vv μ14 h => ?_))
      obtain ⟨v15, hv, h⟩ := h
      refine ⟨_, hv, ?_⟩
      refine r_bbeq (q := 108) (t := 115) DM_X8_last_105 rfl (by decide) ⟨fun cc => ?_, fun cc => ?_⟩
      · replace h := h.1 cc
        refine v_iinc (q := 118) (ls' := [some (.inr 83), some (.inl x1), some (.inl x2), some (.inl x3), some (.inl x4), some (.inl (x5 + 1)), some (.inl v11)]) DM_X8_last_115 rfl rfl (by decide) rfl ?_
        refine r_goto (q := 61) DM_X8_last_118 (by decide) ?_
        exact Gg.weak [true, true, true, true, true, true, false] h
      · replace h := h.2 cc
        refine r_iload (q := 110) DM_X8_last_108 rfl rfl ?_
        refine v_istoren (q := 111) (ls' := [some (.inr 83), some (.inl x1), some (.inl x2), some (.inl x5), some (.inl x4), some (.inl x5), some (.inl v11)]) DM_X8_last_110 rfl (by decide) rfl ?_
        refine r_iload (q := 113) DM_X8_last_111 rfl rfl ?_
        refine v_istore (q := 115) (ls' := [some (.inr 83), some (.inl x1), some (.inl x2), some (.inl x5), some (.inl v11), some (.inl x5), some (.inl v11)]) DM_X8_last_113 rfl (by decide) rfl ?_
        refine v_iinc (q := 118) (ls' := [some (.inr 83), some (.inl x1), some (.inl x2), some (.inl x5), some (.inl v11), some (.inl (x5 + 1)), some (.inl v11)]) DM_X8_last_115 rfl rfl (by decide) rfl ?_
        refine r_goto (q := 61) DM_X8_last_118 (by decide) ?_
        exact Gg.weak [true, true, true, true, true, true, false] h
section P84
variable {E : Ex} {v w : CV} {x z p : Int} {μ : Mem} {Q : Option Vl → Mem → Prop}
theorem k_X8_power {b n : Int} (hn : 0 ≤ n ∧ n < 100) (h : Q (some (.inl (b ^ n.toNat))) μ) : Cl E 0 M_X8_power [.inl b, .inl n] μ Q := by
  refine s_X8_power ?_
  have key : ∀ (r c : Nat), c + r = n.toNat → Gg E 0 M_X8_power 4 [some (.inl b), some (.inl n), some (.inl (b ^ c)), some (.inl (c : Int))] [] μ Q := by
    intro r
    induction r with
    | zero =>
      intro c hc
      exact s_X8_power_4 ⟨by omega, by omega, fun _ => by rw [show c = n.toNat by omega]; exact h, fun z => absurd (by omega) z⟩
    | succ r ih =>
      intro c hc
      refine s_X8_power_4 ⟨by omega, by omega, fun z => absurd z (by omega), fun _ => ?_⟩
      have := ih (c + 1) (by omega)
      rw [Int.pow_succ] at this
      rwa [show ((c + 1 : Nat) : Int) = (c : Int) + 1 by omega] at this
  have h0 := key n.toNat 0 (by omega)
  rw [Int.pow_zero] at h0
  exact h0
theorem p8 {e : Nat} (h : e ≤ 4) : (0 : Int) < 8 ^ e ∧ (8 : Int) ^ e ≤ 4096 := by
  rcases (show e = 0 ∨ e = 1 ∨ e = 2 ∨ e = 3 ∨ e = 4 by omega) with q | q | q | q | q <;> subst q <;> decide
theorem j8 {e : Nat} (h : e ≤ 4) (hz : 0 ≤ z ∧ z < 2147483648) : jrem (jdiv z (8 ^ e)) 8 = dgt 8 z e := by
  have p := p8 h
  have a := Int.ediv_le_self (8 ^ e) hz.1
  have b := Int.ediv_nonneg hz.1 (Int.le_of_lt p.1)
  rw [jdiv_pos hz.1 hz.2 p.1 (by omega), jrem_pos b (by omega) (by decide) (by decide)]
  rfl
theorem trX.upv (h : trX v w x) {i l : Int} (hi : 0 ≤ i ∧ i < 4) (hl : 0 ≤ l ∧ l ≤ 7) : trX v (Jvm.Pilot.CAlphaCourtLaw_law_r2652_50ddd0.upv w 5 (x * 4 + i) l) x := by
  obtain ⟨a, b, c, d⟩ := h
  refine ⟨fun k hk => ?_, fun j j1 j2 j5 => ?_, fun k hk => ?_, fun k k0 k1 => ?_⟩
  · rw [upv_ne (by decide)]; exact a k hk
  · rw [upv_ne j5]; exact b j j1 j2 j5
  · rw [upv_i (by omega)]; exact c k hk
  · by_cases e : k = i
    · rw [e, upv_self]; exact hl
    · rw [upv_i (by omega)]; exact d k k0 k1
theorem k_X8_isLast {k : Nat} (hk : shp k = (0, 91, [])) (hR : Rel w (μ k)) (hx : 0 ≤ x ∧ x < w 0 1) (h1 : (∀ p, 0 ≤ p → p < w 0 1 → p ≠ x → cWait w p (w 0 4) = true → cBef w p x (cTurn w (w 0 4) 0) = true) → Q (some (.inl (bi true))) μ) (h2 : (∃ p, (0 ≤ p ∧ p < w 0 1) ∧ p ≠ x ∧ cWait w p (w 0 4) = true ∧ cBef w p x (cTurn w (w 0 4) 0) = false) → Q (some (.inl (bi false))) μ) : Cl E 3 M_X8_isLast [.inr 83, .inr k, .inl x] μ Q := by
  have n6 := hR.n
  have e2 := hR.a2
  refine s_X8_isLast (v := w) hk ?_
  suffices hh : ((∀ p, 0 ≤ p → p < 0 → p ≠ x → cWait w p (w 0 4) = true → cBef w p x (cTurn w (w 0 4) 0) = true) → Gg E 3 M_X8_isLast 5 [some (.inr 83), some (.inr k), some (.inl x), some (.inl 1), some (.inl 0)] [] μ Q) ∧ ((∃ p, (0 ≤ p ∧ p < 0) ∧ p ≠ x ∧ cWait w p (w 0 4) = true ∧ cBef w p x (cTurn w (w 0 4) 0) = false) → Gg E 3 M_X8_isLast 5 [some (.inr 83), some (.inr k), some (.inl x), some (.inl 0), some (.inl 0)] [] μ Q) from hh.1 (fun p a b => absurd b (by omega))
  refine up_ind (N := w 0 1) (P := fun c => ((∀ p, 0 ≤ p → p < c → p ≠ x → cWait w p (w 0 4) = true → cBef w p x (cTurn w (w 0 4) 0) = true) → Gg E 3 M_X8_isLast 5 [some (.inr 83), some (.inr k), some (.inl x), some (.inl 1), some (.inl c)] [] μ Q) ∧ ((∃ p, (0 ≤ p ∧ p < c) ∧ p ≠ x ∧ cWait w p (w 0 4) = true ∧ cBef w p x (cTurn w (w 0 4) 0) = false) → Gg E 3 M_X8_isLast 5 [some (.inr 83), some (.inr k), some (.inl x), some (.inl 0), some (.inl c)] [] μ Q)) 0 n6.1 ⟨fun a => ?_, fun a => ?_⟩ (fun c c0 c1 ih => ⟨fun a => ?_, fun a => ?_⟩)
  · exact s_X8_isLast_5 (v := w) hk ⟨by omega, by omega, fun _ => ⟨Or.inr rfl, h1 a⟩, fun z => absurd (by omega) z⟩
  · exact s_X8_isLast_5 (v := w) hk ⟨by omega, by omega, fun _ => ⟨Or.inl rfl, h2 a⟩, fun z => absurd (by omega) z⟩
  · refine s_X8_isLast_5 (v := w) hk ⟨by omega, by omega, fun z => absurd z (by omega), fun _ => ⟨by decide, fun z => absurd z (by decide), fun _ => ⟨by omega, fun e => ih.1 (fun p p0 p1 px pw => ?_), fun e => ⟨hR, ⟨c0, c1⟩, fun wf => ih.1 (fun p p0 p1 px pw => ?_), fun wt => ⟨hx, by decide, fun bf => ih.2 ⟨c, ⟨c0, by omega⟩, e, wt, bf⟩, fun bt => ih.1 (fun p p0 p1 px pw => ?_)⟩⟩⟩⟩⟩
    · exact a p p0 (by omega) px pw
    · by_cases q : p = c
      · rw [q, wf] at pw; exact absurd pw (by decide)
      · exact a p p0 (by omega) px pw
    · by_cases q : p = c
      · rw [q]; exact bt
      · exact a p p0 (by omega) px pw
  · obtain ⟨p, b⟩ := a
    refine s_X8_isLast_5 (v := w) hk ⟨by omega, by omega, fun z => absurd z (by omega), fun _ => ⟨by decide, fun _ => ih.2 ⟨p, ⟨b.1.1, by omega⟩, b.2⟩, fun z => absurd rfl z⟩⟩
theorem k_X8_lays (hv : Rel v (μ 89)) (hw : Rel w (μ 91)) (ht : trX v w x) (hx : 0 ≤ x ∧ x < v 0 1) (hz : 0 ≤ z ∧ z < 2147483648) (h : ∀ (w1 : CV) (μ1 : Mem), (∀ k, k ≠ 91 → μ1 k = μ k) → Rel w1 (μ1 91) → trX v w1 x → (∀ i, 0 ≤ i → i < v 4 x → w1 5 (x * 4 + i) = dgt 8 z (v 4 x - 1 - i).toNat) → Q (some (.inl (ocv v x z))) μ1) : Cl E 1 M_X8_lays [.inr 83, .inl x, .inl z] μ Q := by
  have n6 := hv.n
  have rp := hv.p hx.1 hx.2
  have e3 : μ 89 (13 + 13 * x + 3) = v 4 x := rp.2.2.2.1
  have l4 := (hv.ok hx.1 hx.2).2.1
  refine s_X8_lays ⟨by omega, ?_⟩
  rw [e3]
  suffices hh : ∀ (w' : CV) (μ' : Mem), (∀ k, k ≠ 91 → μ' k = μ k) → Rel w' (μ' 91) → trX v w' x → (∀ i, 0 ≤ i → i < 0 → w' 5 (x * 4 + i) = dgt 8 z (v 4 x - 1 - i).toNat) → Gg E 1 M_X8_lays 16 [some (.inr 83), some (.inl x), some (.inl z), some (.inl (v 4 x)), some (.inl (oc (fun i => v 5 (x * 4 + i)) (v 4 x) z 0)), some (.inl 0), none] [] μ' Q from
    hh w μ (fun _ _ => rfl) hw ht (fun i a b => absurd b (by omega))
  refine up_ind (N := v 4 x) (P := fun c => ∀ (w' : CV) (μ' : Mem), (∀ k, k ≠ 91 → μ' k = μ k) → Rel w' (μ' 91) → trX v w' x → (∀ i, 0 ≤ i → i < c → w' 5 (x * 4 + i) = dgt 8 z (v 4 x - 1 - i).toNat) → Gg E 1 M_X8_lays 16 [some (.inr 83), some (.inl x), some (.inl z), some (.inl (v 4 x)), some (.inl (oc (fun i => v 5 (x * 4 + i)) (v 4 x) z c)), some (.inl c), none] [] μ' Q) 0 (by omega) (fun w' μ' k1 r1 t1 d1 => ?_) (fun c c0 c1 ih w' μ' k1 r1 t1 d1 => ?_)
  · exact s_X8_lays_16 ⟨by omega, by omega, fun _ => h w' μ' k1 r1 t1 d1, fun z => absurd (Int.le_refl _) z⟩
  · have dr := dgt_rng (B := 8) (z := z) (m := (v 4 x - 1 - c).toNat) (by decide)
    have pe := p8 (e := (v 4 x - 1 - c).toNat) (by omega)
    refine s_X8_lays_16 ⟨by omega, by omega, fun z => absurd z (by omega), fun _ => k_X8_power (by omega) ⟨_, rfl, ⟨by omega, by omega⟩, by omega, ?_⟩⟩
    rw [j8 (by omega) hz]
    intro μ5 e5
    have n1 : w' 0 1 = v 0 1 := t1.1 1 (by decide)
    have w4 : w' 4 x = v 4 x := congrFun (t1.2.1 4 (by decide) (by decide) (by decide)) x
    have r5 : Rel (upv w' 5 (x * 4 + c) (dgt 8 z (v 4 x - 1 - c).toNat)) (μ5 91) := r1.forge (by omega) (by omega) (by omega) (by rw [e5, up_self]) (fun t ht => by rw [e5, up_off (Or.inr ht)])
    have ow : μ5 89 (13 + 13 * x + (4 + c)) = v 5 (x * 4 + c) := by
      rw [e5, up_ne (by decide), k1 89 (by decide)]; exact rp.2.2.2.2.1 c c0 c1
    have owr := (hv.ok hx.1 hx.2).2.2.2.2 c c0 c1
    have nx := ih (upv w' 5 (x * 4 + c) (dgt 8 z (v 4 x - 1 - c).toNat)) μ5 (fun k hk => by rw [e5, up_ne hk, k1 k hk]) r5 (t1.upv (by omega) (by omega)) (fun i i0 i1 => by
      by_cases e : i = c
      · rw [e, upv_self]
      · rw [upv_i (by omega)]; exact d1 i i0 (by omega))
    rw [oc_succ c0] at nx
    rw [ow]
    refine ⟨by omega, by omega, by omega, fun q => ?_, fun q => ?_⟩
    · rwa [if_neg q] at nx
    · rwa [if_pos q] at nx
theorem last_GL (hV : VC v) (hs : v 0 0 = 1) (hx : 0 ≤ x ∧ x < v 0 1) (ht : trX v w x) (hz : ∀ i, 0 ≤ i → i < v 4 x → w 5 (x * 4 + i) = dgt 8 z (v 4 x - 1 - i).toNat) : (∀ p, 0 ≤ p → p < w 0 1 → p ≠ x → cWait w p (w 0 4) = true → cBef w p x (cTurn w (w 0 4) 0) = true) ↔ GL v x z := by
  have ho : oOK v := by
    rcases hV.1 with q | q
    · exact absurd (q.1.symm.trans hs) (by decide)
    · exact q.2.2
  have n6 := hV.2.1
  have hp := hV.2.2.2.2.2
  have n1 : w 0 1 = v 0 1 := ht.1 1 (by decide)
  have n4 : w 0 4 = v 0 4 := ht.1 4 (by decide)
  have wt : ∀ p d, cWait w p d = cWait v p d := fun p d => by
    unfold cWait
    rw [ht.2.1 8 (by decide) (by decide) (by decide), ht.2.1 7 (by decide) (by decide) (by decide)]
  have tu : cTurn w (w 0 4) 0 = cTurn v (v 0 4) 0 := by
    unfold cTurn
    rw [n4, ht.1 3 (by decide)]
  rw [n1, tu, n4]
  unfold GL
  have cm := cLast_max (x := x) (t := cTurn v (v 0 4) 0) hV hs
  generalize cTurn v (v 0 4) 0 = t at cm ⊢
  generalize cLast v x t = r at cm ⊢
  rcases cm with ⟨r1, no⟩ | ⟨r0, rx, rwt, mx⟩
  · refine ⟨fun _ => Or.inl r1, fun _ p p0 p1 px pw => ?_⟩
    rw [wt, no p p0 p1 px] at pw
    exact absurd pw (by decide)
  · have bf := trX.bef (t := t) (z := z) ht (by omega) (by omega) rx (hp r r0.1 r0.2) (hp x hx.1 hx.2) ho hz
    refine ⟨fun a => Or.inr (bf.mp (a r r0.1 r0.2 rx (by rw [wt]; exact rwt))), fun a p p0 p1 px pw => ?_⟩
    rcases a with q | q
    · omega
    · rw [wt] at pw
      have m := mx p p0 p1 px pw
      rw [cBef_key (ht.ok (hp p p0 p1) (Or.inr px)) (ht.ok (hp x hx.1 hx.2) (Or.inl rfl)) (ht.oo ho) (by omega) (by omega), ht.gk (hp p p0 p1) px, ht.gx (hp x hx.1 hx.2) hz]
      unfold Gz at q
      omega
def BS (v : CV) (x c best few : Int) : Prop := (best = -1000000 ∧ few = 5 ∧ ∀ y, 0 ≤ y → y < c → ¬ GL v x y) ∨ ((0 ≤ best ∧ best < c) ∧ few = ocv v x best ∧ GL v x best ∧ ∀ y, 0 ≤ y → y < c → GL v x y → few ≤ ocv v x y ∧ (ocv v x y = few → best ≤ y))
theorem ref_last {x2 : Int} (hR : Rel v (μ 89)) (hs : v 0 0 = 1) (hx : 0 ≤ x ∧ x < v 0 1) (hw : cWait v x (v 0 4) = true) (h2 : x2 = -1 ∨ (0 ≤ x2 ∧ x2 < v 4 x)) (h : ∀ μ1 : Mem, (∀ k, k ≠ 91 → μ1 k = μ k) → ∀ best few, BS v x (8 ^ (v 4 x).toNat) best few → Q (some (.inl (if best = -1000000 then -1000000 else if x2 = -1 then few else dgt 8 best (v 4 x - 1 - x2).toNat))) μ1) : Gg E 4 M_X8_last 25 [some (.inr 83), some (.inl x), some (.inl x2), none, none, none, none] [] μ Q := by
  have n6 := hR.n
  have rp := hR.p hx.1 hx.2
  have e3 : μ 89 (13 + 13 * x + 3) = v 4 x := rp.2.2.2.1
  have px := hR.ok hx.1 hx.2
  have l4 := px.2.1
  have pe := p8 (e := (v 4 x).toNat) (by omega)
  refine s_X8_last_25 (v := v) ⟨hR, hx, fun _ => k_X8_copies sh_89 (by decide) sh_91 (by decide) (by decide) (by decide) (by decide) (fun μ1 o1 o2 o3 => ⟨rfl, ?_⟩), fun q => absurd (hw.symm.trans q) (by decide)⟩
  refine Gg.agr (clip_agr (c := 91) (n := 91) sh_91) ?_
  obtain ⟨μ2, em⟩ : ∃ μ2, μ2 = clip μ1 91 91 := ⟨_, rfl⟩
  have k2 : ∀ k, k ≠ 91 → μ2 k = μ k := fun k hk => by rw [em, clip_ne hk, o1 k hk]
  have r2 : Rel v (μ2 91) := by
    refine hR.arr (fun i i0 i1 => ?_) (fun i => ?_)
    · have := o2 i i0 i1
      rw [Int.zero_add] at this
      rw [em, clip_in ⟨i0, i1⟩, this]
    · rw [em]
      by_cases hi : 0 ≤ i ∧ i < 91
      · have := o2 i hi.1 hi.2
        rw [Int.zero_add] at this
        rw [clip_in hi, this]; exact hR.2.2.1 i
      · rw [clip_out hi]; omega
  show Gg E 4 M_X8_last 61 _ [] (clip μ1 91 ((91 : Nat) : Int)) Q
  rw [show clip μ1 91 ((91 : Nat) : Int) = μ2 from em.symm]
  suffices hh : ∀ (w' : CV) (μ' : Mem) (best few : Int), (∀ k, k ≠ 91 → μ' k = μ k) → Rel w' (μ' 91) → trX v w' x → BS v x 0 best few → Gg E 4 M_X8_last 61 [some (.inr 83), some (.inl x), some (.inl x2), some (.inl best), some (.inl few), some (.inl 0), none] [] μ' Q from
    hh v μ2 _ _ k2 r2 ⟨fun _ _ => rfl, fun _ _ _ _ => rfl, fun _ _ => rfl, fun i i0 i1 => px.2.2.2.2 i i0 i1⟩ (Or.inl ⟨rfl, rfl, fun y a b => absurd b (by omega)⟩)
  refine up_ind (N := 8 ^ (v 4 x).toNat) (P := fun c => ∀ (w' : CV) (μ' : Mem) (best few : Int), (∀ k, k ≠ 91 → μ' k = μ k) → Rel w' (μ' 91) → trX v w' x → BS v x c best few → Gg E 4 M_X8_last 61 [some (.inr 83), some (.inl x), some (.inl x2), some (.inl best), some (.inl few), some (.inl c), none] [] μ' Q) 0 (by omega) (fun w' μ' best few k1 r1 t1 b1 => ?_) (fun c c0 c1 ih w' μ' best few k1 r1 t1 b1 => ?_)
  · have f3 : μ' 89 (13 + 13 * x + 3) = v 4 x := by rw [k1 89 (by decide)]; exact e3
    have hq := h μ' k1 best few b1
    have ir : inR best := by rcases b1 with q | q <;> omega
    refine s_X8_last_61 (v := v) ⟨by omega, ?_⟩
    rw [f3]
    refine k_X8_power (by omega) ⟨_, rfl, by omega, by omega, fun _ => ⟨ir, fun q => ⟨by omega, fun q2 => ?_, fun q2 => ?_⟩, fun q => ?_⟩, fun z => absurd (Int.le_refl _) z⟩
    · rw [f3]
      refine k_X8_power (by omega) ⟨_, rfl, ?_, ?_⟩
      · have := p8 (e := (v 4 x - 1 - x2).toNat) (by omega); omega
      · rw [if_neg q, if_neg q2] at hq
        rw [j8 (by omega) (by rcases b1 with z | z <;> omega)]
        exact hq
    · rwa [if_neg q, if_pos q2] at hq
    · rwa [if_pos q] at hq
  · have f3 : μ' 89 (13 + 13 * x + 3) = v 4 x := by rw [k1 89 (by decide)]; exact e3
    have hR' : Rel v (μ' 89) := by rw [k1 89 (by decide)]; exact hR
    have ocr : ∀ y, 0 ≤ ocv v x y ∧ ocv v x y ≤ v 4 x := fun y => oc_rng (by omega)
    have fr : 0 ≤ few ∧ few ≤ 5 := by
      rcases b1 with q | q
      · omega
      · have := ocr best; omega
    refine s_X8_last_61 (v := v) ⟨by omega, ?_⟩
    rw [f3]
    refine k_X8_power (by omega) ⟨_, rfl, by omega, by omega, fun z => absurd z (by omega), fun _ => ?_⟩
    refine k_X8_lays (v := v) hR' r1 t1 hx (by omega) (fun w1 μ5 k5 r5 t5 d5 => ?_)
    have oc1 := ocr c
    have gl := last_GL hR.2.1 hs hx t5 d5
    have k6 : ∀ k, k ≠ 91 → μ5 k = μ k := fun k hk => by rw [k5 k hk, k1 k hk]
    have n1 : w1 0 1 = v 0 1 := t5.1 1 (by decide)
    refine ⟨_, rfl, by omega, by omega, fun q => ih w1 μ5 best few k6 r5 t5 ?_, fun q => k_X8_isLast sh_91 r5 (by omega) (fun yes => ⟨_, rfl, fun z => absurd z (by decide), fun _ => ih w1 μ5 c (ocv v x c) k6 r5 t5 ?_⟩) (fun no => ⟨_, rfl, fun _ => ih w1 μ5 best few k6 r5 t5 ?_, fun z => absurd z (by decide)⟩)⟩
    · rcases b1 with ⟨a1, a2, a3⟩ | ⟨a1, a2, a3, a4⟩
      · omega
      · refine Or.inr ⟨by omega, a2, a3, fun y y0 y1 gy => ?_⟩
        by_cases e : y = c
        · subst e; exact ⟨by omega, fun _ => by omega⟩
        · exact a4 y y0 (by omega) gy
    · refine Or.inr ⟨by omega, rfl, gl.mp yes, fun y y0 y1 gy => ?_⟩
      by_cases e : y = c
      · subst e; exact ⟨Int.le_refl _, fun _ => Int.le_refl _⟩
      · rcases b1 with ⟨a1, a2, a3⟩ | ⟨a1, a2, a3, a4⟩
        · exact absurd gy (a3 y y0 (by omega))
        · have := (a4 y y0 (by omega) gy).1
          exact ⟨by omega, fun _ => by omega⟩
    · have ng : ¬ GL v x c := fun g => by
        obtain ⟨p, pr, pn, pw, pb⟩ := no
        rw [gl.mpr g p pr.1 pr.2 pn pw] at pb
        exact absurd pb (by decide)
      rcases b1 with ⟨a1, a2, a3⟩ | ⟨a1, a2, a3, a4⟩
      · refine Or.inl ⟨a1, a2, fun y y0 y1 gy => ?_⟩
        by_cases e : y = c
        · subst e; exact ng gy
        · exact a3 y y0 (by omega) gy
      · refine Or.inr ⟨by omega, a2, a3, fun y y0 y1 gy => ?_⟩
        by_cases e : y = c
        · subst e; exact absurd gy ng
        · exact a4 y y0 (by omega) gy
theorem pr_last {x1 x2 : Int} (hI : Inv μ) (hRo : RoOk E) (i1 : inR x1) (i2 : inR x2) : Pair E 22 M_X7_last 4 M_X8_last [.inl x1, .inl x2] μ := by
  have hC := hI.2.2.2.2.1
  have hR := hC.1
  have g4 := hI.2.2.2.2.2.2.2.1
  have g14 := hI.2.2.2.2.2.2.2.2.1
  have g31 := hI.2.2.2.2.2.2.2.2.2.1
  have e2 : μ 89 2 = μ 4 1 := hR.a2
  obtain ⟨v0, v1, -, v4, -⟩ := hR.2.1
  replace v1 : 0 ≤ μ 4 1 ∧ μ 4 1 ≤ 6 := v1
  replace v4 : 0 ≤ μ 4 4 ∧ μ 4 4 ≤ 1500 := v4
  have badR : (¬ (0 ≤ x1 ∧ x1 < μ 4 1) ∨ (x2 ≠ -1 ∧ ¬ (0 ≤ x2 ∧ x2 < μ (4 + 4) x1))) → Cl E 4 M_X8_last [.inr 83, .inl x1, .inl x2] μ (fun w μ2 => w = some (.inl (-1000001)) ∧ Inv μ2) := fun hb =>
    s_X8_last (v := cv μ 4) ⟨i1, by omega, fun _ => ⟨rfl, hI⟩, fun z => ⟨i2, fun q => absurd hb (by omega), fun q => k_X8_isPlaceOf hR i1 i2 ⟨_, rfl, fun y => absurd (of_decide_eq_true y) (fun y2 => by
      have y3 := y2.2
      replace y3 : 0 ≤ x2 ∧ x2 < μ (4 + 4) x1 := y3
      omega), fun _ => ⟨rfl, hI⟩⟩⟩⟩
  refine s_X7_last ⟨i1, by omega, fun z1 => ⟨_, rfl, by decide, badR (Or.inl z1)⟩, fun z1 => ?_⟩
  have pk := hR.ok z1.1 z1.2
  have l4 : 1 ≤ μ (4 + 4) x1 ∧ μ (4 + 4) x1 ≤ 4 := pk.2.1
  have body : (x2 = -1 ∨ (0 ≤ x2 ∧ x2 < μ (4 + 4) x1)) → Gg E 22 M_X7_last 32 [some (.inr 0), some (.inl x1), some (.inl x2), none] [] μ (fun v μ1 => ∃ r, v = some (.inl r) ∧ inR r ∧ Cl E 4 M_X8_last [.inr 83, .inl x1, .inl x2] μ1 (fun w μ2 => w = some (.inl r) ∧ Inv μ2)) := by
    intro h2
    have hs : μ 4 0 = 1 := by
      rcases v0 with q | q
      · exact absurd q.2.1 (show ¬ μ 4 1 = 0 by omega)
      · exact q.1
    have toR : ∀ (μ' : Mem) {Q : Option Vl → Mem → Prop} {v : CV}, Rel v (μ' 89) → eqv (cv μ 4) v → Gg E 4 M_X8_last 25 [some (.inr 83), some (.inl x1), some (.inl x2), none, none, none, none] [] μ' Q → Cl E 4 M_X8_last [.inr 83, .inl x1, .inl x2] μ' Q := by
      intro μ' Q v hv ev g
      have f2 : μ' 89 2 = μ 4 1 := by rw [hv.a2, ← ev.1 1 (by decide)]; rfl
      have f4 : v 4 x1 = μ (4 + 4) x1 := by rw [← ev.2 4 (by decide) (by decide)]; rfl
      have f1 : v 0 1 = μ 4 1 := by rw [← ev.1 1 (by decide)]; rfl
      exact s_X8_last (v := v) ⟨i1, by omega, fun q => absurd (by omega) q, fun _ => ⟨i2, fun _ => g, fun q => k_X8_isPlaceOf hv i1 i2 ⟨_, rfl, fun _ => g, fun y => absurd (⟨by omega, by omega⟩ : (0 ≤ x1 ∧ x1 < v 0 1) ∧ 0 ≤ x2 ∧ x2 < v 4 x1) (of_decide_eq_false y)⟩⟩⟩
    refine s_X7_last_32 ⟨g4, by omega, by omega, fun w => ?_, fun w => ⟨_, rfl, by decide, toR μ hR eqv.rf (s_X8_last_25 (v := cv μ 4) ⟨hR, z1, fun q => absurd (q.symm.trans w) (by decide), fun _ => ⟨rfl, hI⟩⟩)⟩⟩
    refine k_X5_findFewest hRo hR.2.1 hs g4 g31 z1 (fun v μ4 res ev k4 g4' fw => ⟨_, rfl, i2, ?_⟩)
    have hv : Rel v (μ4 89) := by rw [k4 89 (by decide)]; exact hR.eqv ev
    have f1 : v 0 1 = μ 4 1 := by rw [← ev.1 1 (by decide)]; rfl
    have f0 : v 0 0 = 1 := by rw [← ev.1 0 (by decide)]; exact hs
    have f4 : v 4 x1 = μ (4 + 4) x1 := by rw [← ev.2 4 (by decide) (by decide)]; rfl
    have wv : cWait v x1 (v 0 4) = true := by rw [← ev.wait, ← ev.1 4 (by decide)]; exact w
    have ref : ∀ ans, (∀ best few, BS v x1 (8 ^ (v 4 x1).toNat) best few → (if best = -1000000 then -1000000 else if x2 = -1 then few else dgt 8 best (v 4 x1 - 1 - x2).toNat) = ans) → Cl E 4 M_X8_last [.inr 83, .inl x1, .inl x2] μ4 (fun w μ2 => w = some (.inl ans) ∧ Inv μ2) := by
      intro ans ha
      refine toR μ4 hv ev (ref_last hv f0 (by omega) wv (by omega) (fun μ5 k5 best few bs => ⟨by rw [ha best few bs], ?_⟩))
      exact hI.fore (fun k hk => by rw [k5 k (by omega), k4 k (by omega)]) (fun i _ => by rw [k5 83 (by decide), k4 83 (by decide)]) (g14.cg (fun k a b => by rw [k5 k (by omega), k4 k (by omega)])) (g4'.cg (fun k a b => k5 k (by omega)))
    have ocr : ∀ y, 0 ≤ ocv v x1 y ∧ ocv v x1 y ≤ v 4 x1 := fun y => oc_rng (by omega)
    rcases fw with ⟨q1, q2⟩ | ⟨z, z0, z1', z2, z3, z4⟩
    · have rr := ref (-1000000) (fun best few bs => by
        rcases bs with ⟨a1, -⟩ | ⟨a1, a2, a3, -⟩
        · rw [if_pos a1]
        · exact absurd a3 (q2 best a1.1 (blk_0 a1.1 a1.2)))
      rw [q1]
      exact ⟨fun _ => ⟨_, rfl, by decide, rr⟩, fun _ => ⟨by decide, fun z => absurd rfl z, fun _ => ⟨_, rfl, by decide, rr⟩⟩⟩
    · have same : ∀ best few, BS v x1 (8 ^ (v 4 x1).toNat) best few → best = z ∧ few = ocv v x1 z := by
        intro best few bs
        have zl : z < 8 ^ (v 4 x1).toNat := blk_lt (by decide) z0.2
        rcases bs with ⟨a1, a2, a3⟩ | ⟨a1, a2, a3, a4⟩
        · exact absurd z1' (a3 z z0.1 zl)
        · have b1 := a4 z z0.1 zl z1'
          have b2 := z3 best a1.1 (blk_0 a1.1 a1.2) a3
          have e : few = ocv v x1 z := by omega
          have := b1.2 (by omega)
          have := b2.2 (by omega)
          exact ⟨by omega, e⟩
      have oz := ocr z
      refine ⟨fun q => ⟨_, rfl, by omega, ref res (fun best few bs => ?_)⟩, fun q => ⟨by omega, fun q2 => ⟨by omega, _, rfl, ?_, ref _ (fun best few bs => ?_)⟩, fun q2 => absurd q2 (by omega)⟩⟩
      · obtain ⟨b1, b2⟩ := same best few bs
        rw [if_neg (by omega), if_pos q]; omega
      · have := z4 x2 (by omega) (by omega)
        replace this : μ4 (31 + 5) (x1 * 4 + x2) = dgt 8 z (v 4 x1 - 1 - x2).toNat := this
        have dr := dgt_rng (B := 8) (z := z) (m := (v 4 x1 - 1 - x2).toNat) (by decide)
        rw [this]; unfold inR; omega
      · obtain ⟨b1, b2⟩ := same best few bs
        rw [if_neg (by omega), if_neg q, b1]
        exact (z4 x2 (by omega) (by omega)).symm
  exact ⟨i2, fun q => body (Or.inl q), fun q => ⟨by omega, by omega, fun z2 => body (Or.inr z2), fun z2 => ⟨_, rfl, by decide, badR (Or.inr ⟨q, z2⟩)⟩⟩⟩
end P84

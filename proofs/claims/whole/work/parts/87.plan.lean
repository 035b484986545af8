/-! Planner: the seats as they are, and the plan. -/
set_option maxRecDepth 20000 in
theorem s_X3_openSeats {E : Ex} {μ : Mem} {Q : Option Vl → Mem → Prop}  (h : ∀ μ1 : Mem, μ1 = up μ 41 5 0 → Gg E 3 M_X3_openSeats 7 [some (.inr 41), some (.inr 4), some (.inl 0)] [] μ1 Q) : Cl E 3 M_X3_openSeats [.inr 41, .inr 4] μ Q := by
  show Gg E 3 M_X3_openSeats 0 [some (.inr 41), some (.inr 4), none] [] μ Q
  refine r_aloadn (q := 1) DM_X3_openSeats_0 rfl rfl ?_
  refine r_iconst (q := 2) (n := 0) DM_X3_openSeats_1 rfl ?_
  refine v_put (q := 5) (ji := 5) DM_X3_openSeats_2 rfl pfRX3_56 sh_41 rfl rfl (Or.inl rfl) (fun μ1 e1 => ?_)
  replace h := h μ1 e1
  refine r_iconst (q := 6) (n := 0) DM_X3_openSeats_5 rfl ?_
  refine v_istoren (q := 7) (ls' := [some (.inr 41), some (.inr 4), some (.inl 0)]) DM_X3_openSeats_6 rfl (by decide) rfl ?_
  exact h
set_option maxRecDepth 20000 in
theorem s_X3_openSeats_7 {E : Ex} {μ : Mem} {Q : Option Vl → Mem → Prop} {x2 : Int}  (h : inR x2 ∧ inR (μ 4 1) ∧ (x2 ≥ (μ 4 1) → Gg E 3 M_X3_openSeats 62 [some (.inr 41), some (.inr 4), some (.inl x2)] [] μ Q) ∧ (¬ x2 ≥ (μ 4 1) → (RgC μ 4) ∧ (0 ≤ x2 ∧ x2 < 6) ∧ inR (cState (cv μ 4) x2 (μ 4 4)) ∧ ((cState (cv μ 4) x2 (μ 4 4)) ≠ 1 → Gg E 3 M_X3_openSeats 7 [some (.inr 41), some (.inr 4), some (.inl (x2 + 1))] [] μ Q) ∧ ((cState (cv μ 4) x2 (μ 4 4)) = 1 → inR (μ 41 5) ∧ ((μ 41 5) ≥ 4 → Gg E 3 M_X3_openSeats 7 [some (.inr 41), some (.inr 4), some (.inl (x2 + 1))] [] μ Q) ∧ (¬ (μ 41 5) ≥ 4 → (0 ≤ (μ 41 5) ∧ (μ 41 5) < 4) ∧ ∀ μ7 : Mem, μ7 = up μ 44 (μ 41 5) (μ (4 + 8) x2 + μ (4 + 6) x2) → ∀ μ9 : Mem, μ9 = up μ7 41 5 ((μ7 41 5) + 1) → Gg E 3 M_X3_openSeats 7 [some (.inr 41), some (.inr 4), some (.inl (x2 + 1))] [] μ9 Q)))) : Gg E 3 M_X3_openSeats 7 [some (.inr 41), some (.inr 4), some (.inl x2)] [] μ Q := by
  refine r_iloadn (q := 8) DM_X3_openSeats_7 rfl rfl ?_
  refine r_aloadn (q := 9) DM_X3_openSeats_8 rfl rfl ?_
  refine v_getI (q := 12) (ji := 1) DM_X3_openSeats_9 rfl fRX3_33 (co0 cK_4) rfl rfl ?_
  have i1 := h.1
  replace h := h.2
  have i2 := h.1
  replace h := h.2
  refine r_icge (q := 15) (t := 62) DM_X3_openSeats_12 rfl (by decide) ⟨⟨i1, i2⟩, fun cc => ?_, fun cc => ?_⟩
  · replace h := h.1 cc
    exact h
  · replace h := h.2 cc
    refine r_aloadn (q := 16) DM_X3_openSeats_15 rfl rfl ?_
    refine r_iloadn (q := 17) DM_X3_openSeats_16 rfl rfl ?_
    have i3 := h.1
    replace h := h.2
    have i4 := h.1
    replace h := h.2
    refine r_callVi [.inl x2] (q := 20) DM_X3_openSeats_17 rfl kM_X2_stateOf lRX3_38 (co0 cK_4) rfl rfl (by decide) (Nat.le_of_ble_eq_true rfl) rfl (k_X2_stateOf cK_4 i3 i4 ⟨_, rfl, ?_⟩)
    refine r_iconst (q := 21) (n := 1) DM_X3_openSeats_20 rfl ?_
    have i5 := h.1
    replace h := h.2
    refine r_icne (q := 24) (t := 56) DM_X3_openSeats_21 rfl (by decide) ⟨⟨i5, (by decide)⟩, fun cc => ?_, fun cc => ?_⟩
    · replace h := h.1 cc
      refine v_iinc (q := 59) (ls' := [some (.inr 41), some (.inr 4), some (.inl (x2 + 1))]) DM_X3_openSeats_56 rfl rfl (by decide) rfl ?_
      refine r_goto (q := 7) DM_X3_openSeats_59 (by decide) ?_
      exact h
    · replace h := h.2 cc
      refine r_aloadn (q := 25) DM_X3_openSeats_24 rfl rfl ?_
      refine v_getI (q := 28) (ji := 5) DM_X3_openSeats_25 rfl fRX3_56 sh_41 rfl rfl ?_
      refine r_iconst (q := 29) (n := 4) DM_X3_openSeats_28 rfl ?_
      have i6 := h.1
      replace h := h.2
      refine r_icge (q := 32) (t := 56) DM_X3_openSeats_29 rfl (by decide) ⟨⟨i6, (by decide)⟩, fun cc => ?_, fun cc => ?_⟩
      · replace h := h.1 cc
        refine v_iinc (q := 59) (ls' := [some (.inr 41), some (.inr 4), some (.inl (x2 + 1))]) DM_X3_openSeats_56 rfl rfl (by decide) rfl ?_
        refine r_goto (q := 7) DM_X3_openSeats_59 (by decide) ?_
        exact h
      · replace h := h.2 cc
        refine r_aloadn (q := 33) DM_X3_openSeats_32 rfl rfl ?_
        refine r_getR (q := 36) (r := 44) DM_X3_openSeats_33 rfl fRX3_18 sh_41 rfl ?_
        refine r_aloadn (q := 37) DM_X3_openSeats_36 rfl rfl ?_
        refine v_getI (q := 40) (ji := 5) DM_X3_openSeats_37 rfl fRX3_56 sh_41 rfl rfl ?_
        refine r_aloadn (q := 41) DM_X3_openSeats_40 rfl rfl ?_
        refine r_iloadn (q := 42) DM_X3_openSeats_41 rfl rfl ?_
        refine r_callVi [.inl x2] (q := 45) DM_X3_openSeats_42 rfl kM_X2_freeDay lRX3_59 (co0 cK_4) rfl rfl (by decide) (Nat.le_of_ble_eq_true rfl) rfl (k_X2_freeDay cK_4 i4 ⟨_, rfl, ?_⟩)
        refine v_iast (q := 46) DM_X3_openSeats_45 rfl sh_44 (by decide) ⟨h.1, fun μ7 e7 => ?_⟩
        have i8 := h.1
        replace h := h.2 μ7 e7
        refine r_aloadn (q := 47) DM_X3_openSeats_46 rfl rfl ?_
        refine r_dup (q := 48) DM_X3_openSeats_47 rfl ?_
        refine v_getI (q := 51) (ji := 5) DM_X3_openSeats_48 rfl fRX3_56 sh_41 rfl rfl ?_
        refine r_iconst (q := 52) (n := 1) DM_X3_openSeats_51 rfl ?_
        refine r_iadd (q := 53) DM_X3_openSeats_52 rfl ?_
        refine v_put (q := 56) (ji := 5) DM_X3_openSeats_53 rfl pfRX3_56 sh_41 rfl rfl (Or.inl rfl) (fun μ9 e9 => ?_)
        replace h := h μ9 e9
        refine v_iinc (q := 59) (ls' := [some (.inr 41), some (.inr 4), some (.inl (x2 + 1))]) DM_X3_openSeats_56 rfl rfl (by decide) rfl ?_
        refine r_goto (q := 7) DM_X3_openSeats_59 (by decide) ?_
        exact h
set_option maxRecDepth 20000 in
theorem s_X3_openSeats_62 {E : Ex} {μ : Mem} {Q : Option Vl → Mem → Prop} {x2 : Int}  (h : inR (μ 41 5) ∧ inR (μ 4 2) ∧ ((μ 41 5) ≥ (μ 4 2) → Q none μ) ∧ (¬ (μ 41 5) ≥ (μ 4 2) → ((μ 41 5) ≥ 4 → Q none μ) ∧ (¬ (μ 41 5) ≥ 4 → (0 ≤ (μ 41 5) ∧ (μ 41 5) < 4) ∧ ∀ μ3 : Mem, μ3 = up μ 44 (μ 41 5) ((μ 4 4) + 1) → ∀ μ5 : Mem, μ5 = up μ3 41 5 ((μ3 41 5) + 1) → Gg E 3 M_X3_openSeats 62 [some (.inr 41), some (.inr 4), some (.inl x2)] [] μ5 Q))) : Gg E 3 M_X3_openSeats 62 [some (.inr 41), some (.inr 4), some (.inl x2)] [] μ Q := by
  refine r_aloadn (q := 63) DM_X3_openSeats_62 rfl rfl ?_
  refine v_getI (q := 66) (ji := 5) DM_X3_openSeats_63 rfl fRX3_56 sh_41 rfl rfl ?_
  refine r_aloadn (q := 67) DM_X3_openSeats_66 rfl rfl ?_
  refine v_getI (q := 70) (ji := 2) DM_X3_openSeats_67 rfl fRX3_62 (co0 cK_4) rfl rfl ?_
  have i1 := h.1
  replace h := h.2
  have i2 := h.1
  replace h := h.2
  refine r_icge (q := 73) (t := 109) DM_X3_openSeats_70 rfl (by decide) ⟨⟨i1, i2⟩, fun cc => ?_, fun cc => ?_⟩
  · replace h := h.1 cc
    exact r_ret (v := none) ⟨DM_X3_openSeats_109, rfl⟩ h
  · replace h := h.2 cc
    refine r_aloadn (q := 74) DM_X3_openSeats_73 rfl rfl ?_
    refine v_getI (q := 77) (ji := 5) DM_X3_openSeats_74 rfl fRX3_56 sh_41 rfl rfl ?_
    refine r_iconst (q := 78) (n := 4) DM_X3_openSeats_77 rfl ?_
    refine r_icge (q := 81) (t := 109) DM_X3_openSeats_78 rfl (by decide) ⟨⟨i1, (by decide)⟩, fun cc => ?_, fun cc => ?_⟩
    · replace h := h.1 cc
      exact r_ret (v := none) ⟨DM_X3_openSeats_109, rfl⟩ h
    · replace h := h.2 cc
      refine r_aloadn (q := 82) DM_X3_openSeats_81 rfl rfl ?_
      refine r_getR (q := 85) (r := 44) DM_X3_openSeats_82 rfl fRX3_18 sh_41 rfl ?_
      refine r_aloadn (q := 86) DM_X3_openSeats_85 rfl rfl ?_
      refine v_getI (q := 89) (ji := 5) DM_X3_openSeats_86 rfl fRX3_56 sh_41 rfl rfl ?_
      refine r_aloadn (q := 90) DM_X3_openSeats_89 rfl rfl ?_
      refine v_getI (q := 93) (ji := 4) DM_X3_openSeats_90 rfl fRX3_63 (co0 cK_4) rfl rfl ?_
      refine r_iconst (q := 94) (n := 1) DM_X3_openSeats_93 rfl ?_
      refine r_iadd (q := 95) DM_X3_openSeats_94 rfl ?_
      refine v_iast (q := 96) DM_X3_openSeats_95 rfl sh_44 (by decide) ⟨h.1, fun μ3 e3 => ?_⟩
      have i4 := h.1
      replace h := h.2 μ3 e3
      refine r_aloadn (q := 97) DM_X3_openSeats_96 rfl rfl ?_
      refine r_dup (q := 98) DM_X3_openSeats_97 rfl ?_
      refine v_getI (q := 101) (ji := 5) DM_X3_openSeats_98 rfl fRX3_56 sh_41 rfl rfl ?_
      refine r_iconst (q := 102) (n := 1) DM_X3_openSeats_101 rfl ?_
      refine r_iadd (q := 103) DM_X3_openSeats_102 rfl ?_
      refine v_put (q := 106) (ji := 5) DM_X3_openSeats_103 rfl pfRX3_56 sh_41 rfl rfl (Or.inl rfl) (fun μ5 e5 => ?_)
      replace h := h μ5 e5
      refine r_goto (q := 62) DM_X3_openSeats_106 (by decide) ?_
      exact h
set_option maxRecDepth 20000 in
theorem s_X3_plan {E : Ex} {μ : Mem} {Q : Option Vl → Mem → Prop}  (h : Cl E 3 M_X3_openSeats [.inr 41, .inr 4] μ (fun vv μ1 => vv = none ∧ ∀ μ3 : Mem, μ3 = up μ1 41 1 0 → ∀ μ4 : Mem, μ4 = up μ3 41 2 1000000 → Gg E 21 M_X3_plan 23 [some (.inr 41), some (.inr 4), some (.inl 0), some (.inl 0), some (.inl 0)] [] μ4 Q)) : Cl E 21 M_X3_plan [.inr 41, .inr 4] μ Q := by
  show Gg E 21 M_X3_plan 0 [some (.inr 41), some (.inr 4), none, none, none] [] μ Q
  refine r_aloadn (q := 1) DM_X3_plan_0 rfl rfl ?_
  refine r_aloadn (q := 2) DM_X3_plan_1 rfl rfl ?_
  refine r_callVv [.inr 4] (q := 5) DM_X3_plan_2 rfl kM_X3_openSeats lRX3_21 sh_41 rfl rfl (by decide) (Nat.le_of_ble_eq_true rfl) rfl (Cl.imp h (fun vv μ1 h => ?_))
  obtain ⟨hv, h⟩ := h
  refine ⟨hv, ?_⟩
  refine r_aloadn (q := 6) DM_X3_plan_5 rfl rfl ?_
  refine r_iconst (q := 7) (n := 0) DM_X3_plan_6 rfl ?_
  refine v_put (q := 10) (ji := 1) DM_X3_plan_7 rfl pfRX3_25 sh_41 rfl rfl (Or.inl rfl) (fun μ3 e3 => ?_)
  replace h := h μ3 e3
  refine r_aloadn (q := 11) DM_X3_plan_10 rfl rfl ?_
  refine r_ldc (q := 13) (n := 1000000) DM_X3_plan_11 rfl nRX3_29 ?_
  refine v_put (q := 16) (ji := 2) DM_X3_plan_13 rfl pfRX3_30 sh_41 rfl rfl (Or.inl rfl) (fun μ4 e4 => ?_)
  replace h := h μ4 e4
  refine r_iconst (q := 17) (n := 0) DM_X3_plan_16 rfl ?_
  refine v_istoren (q := 18) (ls' := [some (.inr 41), some (.inr 4), some (.inl 0), none, none]) DM_X3_plan_17 rfl (by decide) rfl ?_
  refine r_iconst (q := 19) (n := 0) DM_X3_plan_18 rfl ?_
  refine v_istoren (q := 20) (ls' := [some (.inr 41), some (.inr 4), some (.inl 0), some (.inl 0), none]) DM_X3_plan_19 rfl (by decide) rfl ?_
  refine r_iconst (q := 21) (n := 0) DM_X3_plan_20 rfl ?_
  refine v_istore (q := 23) (ls' := [some (.inr 41), some (.inr 4), some (.inl 0), some (.inl 0), some (.inl 0)]) DM_X3_plan_21 rfl (by decide) rfl ?_
  exact h
set_option maxRecDepth 20000 in
theorem s_X3_plan_23 {E : Ex} {μ : Mem} {Q : Option Vl → Mem → Prop} {x2 x3 x4 : Int}  (h : inR x4 ∧ inR (μ 4 1) ∧ (x4 ≥ (μ 4 1) → Cl E 20 M_X3_seatOneByOne [.inr 41, .inr 4, .inl 0, .inl x2, .inl x3] μ (fun vv μ3 => vv = none ∧ Q none μ3)) ∧ (¬ x4 ≥ (μ 4 1) → (RgC μ 4) ∧ (0 ≤ x4 ∧ x4 < 6) ∧ inR (cState (cv μ 4) x4 (μ 4 4)) ∧ ((cState (cv μ 4) x4 (μ 4 4)) ≠ 0 → ((cSeat (cv μ 4) x4) = false → Gg E 21 M_X3_plan 23 [some (.inr 41), some (.inr 4), some (.inl x2), some (.inl (x3 + (μ (4 + 7) x4))), some (.inl (x4 + 1))] [] μ Q) ∧ ((cSeat (cv μ 4) x4) = true → Gg E 21 M_X3_plan 23 [some (.inr 41), some (.inr 4), some (.inl x2), some (.inl (x3 + (μ (4 + 8) x4))), some (.inl (x4 + 1))] [] μ Q)) ∧ ((cState (cv μ 4) x4 (μ 4 4)) = 0 → ∀ μ8 : Mem, μ8 = up μ 41 1 ((μ 41 1) + 1) → Gg E 21 M_X3_plan 23 [some (.inr 41), some (.inr 4), some (.inl (jor x2 (jshl 1 x4))), some (.inl x3), some (.inl (x4 + 1))] [] μ8 Q))) : Gg E 21 M_X3_plan 23 [some (.inr 41), some (.inr 4), some (.inl x2), some (.inl x3), some (.inl x4)] [] μ Q := by
  refine r_iload (q := 25) DM_X3_plan_23 rfl rfl ?_
  refine r_aloadn (q := 26) DM_X3_plan_25 rfl rfl ?_
  refine v_getI (q := 29) (ji := 1) DM_X3_plan_26 rfl fRX3_33 (co0 cK_4) rfl rfl ?_
  have i1 := h.1
  replace h := h.2
  have i2 := h.1
  replace h := h.2
  refine r_icge (q := 32) (t := 96) DM_X3_plan_29 rfl (by decide) ⟨⟨i1, i2⟩, fun cc => ?_, fun cc => ?_⟩
  · replace h := h.1 cc
    refine r_aloadn (q := 97) DM_X3_plan_96 rfl rfl ?_
    refine r_aloadn (q := 98) DM_X3_plan_97 rfl rfl ?_
    refine r_iconst (q := 99) (n := 0) DM_X3_plan_98 rfl ?_
    refine r_iloadn (q := 100) DM_X3_plan_99 rfl rfl ?_
    refine r_iloadn (q := 101) DM_X3_plan_100 rfl rfl ?_
    refine r_callSv [.inr 41, .inr 4, .inl 0, .inl x2, .inl x3] (q := 104) DM_X3_plan_101 rfl kM_X3_seatOneByOne lRX3_52 rfl (by decide) (Nat.le_of_ble_eq_true rfl) rfl (Cl.imp h (fun vv μ3 h => ?_))
    obtain ⟨hv, h⟩ := h
    refine ⟨hv, ?_⟩
    exact r_ret (v := none) ⟨DM_X3_plan_104, rfl⟩ h
  · replace h := h.2 cc
    refine r_aloadn (q := 33) DM_X3_plan_32 rfl rfl ?_
    refine r_iload (q := 35) DM_X3_plan_33 rfl rfl ?_
    have i5 := h.1
    replace h := h.2
    have i6 := h.1
    replace h := h.2
    refine r_callVi [.inl x4] (q := 38) DM_X3_plan_35 rfl kM_X2_stateOf lRX3_38 (co0 cK_4) rfl rfl (by decide) (Nat.le_of_ble_eq_true rfl) rfl (k_X2_stateOf cK_4 i5 i6 ⟨_, rfl, ?_⟩)
    have i7 := h.1
    replace h := h.2
    refine r_ifne (q := 41) (t := 61) DM_X3_plan_38 rfl (by decide) ⟨i7, fun cc => ?_, fun cc => ?_⟩
    · replace h := h.1 cc
      refine r_iloadn (q := 62) DM_X3_plan_61 rfl rfl ?_
      refine r_aloadn (q := 63) DM_X3_plan_62 rfl rfl ?_
      refine r_iload (q := 65) DM_X3_plan_63 rfl rfl ?_
      refine r_callVi [.inl x4] (q := 68) DM_X3_plan_65 rfl kM_X2_isSeated lRX3_42 (co0 cK_4) rfl rfl (by decide) (Nat.le_of_ble_eq_true rfl) rfl (k_X2_isSeated cK_4 i5 i6 ⟨_, rfl, ?_⟩)
      refine r_bbeq (q := 71) (t := 81) DM_X3_plan_68 rfl (by decide) ⟨fun cc => ?_, fun cc => ?_⟩
      · replace h := h.1 cc
        refine r_aloadn (q := 82) DM_X3_plan_81 rfl rfl ?_
        refine r_getR (q := 85) (r := 4 + 7) DM_X3_plan_82 rfl fRX3_49 (co0 cK_4) rfl ?_
        refine r_iload (q := 87) DM_X3_plan_85 rfl rfl ?_
        refine r_iald (q := 88) DM_X3_plan_87 rfl (co7 cK_4) (by decide) ⟨i6, ?_⟩
        refine r_iadd (q := 89) DM_X3_plan_88 rfl ?_
        refine v_istoren (q := 90) (ls' := [some (.inr 41), some (.inr 4), some (.inl x2), some (.inl (x3 + (μ (4 + 7) x4))), some (.inl x4)]) DM_X3_plan_89 rfl (by decide) rfl ?_
        refine v_iinc (q := 93) (ls' := [some (.inr 41), some (.inr 4), some (.inl x2), some (.inl (x3 + (μ (4 + 7) x4))), some (.inl (x4 + 1))]) DM_X3_plan_90 rfl rfl (by decide) rfl ?_
        refine r_goto (q := 23) DM_X3_plan_93 (by decide) ?_
        exact h
      · replace h := h.2 cc
        refine r_aloadn (q := 72) DM_X3_plan_71 rfl rfl ?_
        refine r_getR (q := 75) (r := 4 + 8) DM_X3_plan_72 rfl fRX3_46 (co0 cK_4) rfl ?_
        refine r_iload (q := 77) DM_X3_plan_75 rfl rfl ?_
        refine r_iald (q := 78) DM_X3_plan_77 rfl (co8 cK_4) (by decide) ⟨i6, ?_⟩
        refine r_goto (q := 88) DM_X3_plan_78 (by decide) ?_
        refine r_iadd (q := 89) DM_X3_plan_88 rfl ?_
        refine v_istoren (q := 90) (ls' := [some (.inr 41), some (.inr 4), some (.inl x2), some (.inl (x3 + (μ (4 + 8) x4))), some (.inl x4)]) DM_X3_plan_89 rfl (by decide) rfl ?_
        refine v_iinc (q := 93) (ls' := [some (.inr 41), some (.inr 4), some (.inl x2), some (.inl (x3 + (μ (4 + 8) x4))), some (.inl (x4 + 1))]) DM_X3_plan_90 rfl rfl (by decide) rfl ?_
        refine r_goto (q := 23) DM_X3_plan_93 (by decide) ?_
        exact h
    · replace h := h.2 cc
      refine r_iloadn (q := 42) DM_X3_plan_41 rfl rfl ?_
      refine r_iconst (q := 43) (n := 1) DM_X3_plan_42 rfl ?_
      refine r_iload (q := 45) DM_X3_plan_43 rfl rfl ?_
      refine r_ishl (q := 46) DM_X3_plan_45 rfl ?_
      refine r_ior (q := 47) DM_X3_plan_46 rfl ?_
      refine v_istoren (q := 48) (ls' := [some (.inr 41), some (.inr 4), some (.inl (jor x2 (jshl 1 x4))), some (.inl x3), some (.inl x4)]) DM_X3_plan_47 rfl (by decide) rfl ?_
      refine r_aloadn (q := 49) DM_X3_plan_48 rfl rfl ?_
      refine r_dup (q := 50) DM_X3_plan_49 rfl ?_
      refine v_getI (q := 53) (ji := 1) DM_X3_plan_50 rfl fRX3_25 sh_41 rfl rfl ?_
      refine r_iconst (q := 54) (n := 1) DM_X3_plan_53 rfl ?_
      refine r_iadd (q := 55) DM_X3_plan_54 rfl ?_
      refine v_put (q := 58) (ji := 1) DM_X3_plan_55 rfl pfRX3_25 sh_41 rfl rfl (Or.inl rfl) (fun μ8 e8 => ?_)
      replace h := h μ8 e8
      refine r_goto (q := 90) DM_X3_plan_58 (by decide) ?_
      refine v_iinc (q := 93) (ls' := [some (.inr 41), some (.inr 4), some (.inl (jor x2 (jshl 1 x4))), some (.inl x3), some (.inl (x4 + 1))]) DM_X3_plan_90 rfl rfl (by decide) rfl ?_
      refine r_goto (q := 23) DM_X3_plan_93 (by decide) ?_
      exact h
def OP (v : CV) (O : Int → Int) : Prop := (∀ s, 0 ≤ s → s < v 0 2 → v 0 4 + 1 ≤ O s ∧ O s ≤ 3000) ∧ ∀ d, v 0 4 + 1 ≤ d → sv v d = cntI (fun s => decide (d < O s)) (v 0 2)
def pst (v : CV) (c : Int) : Int := foldI (fun p a => if wf v p = true then a else a + (if cSeat v p = true then v 8 p else v 7 p)) 0 c
section P87
variable {E : Ex} {μ : Mem} {Q : Option Vl → Mem → Prop} {v : CV}
theorem k_X3_openSeats (hV : VC (cv μ 4)) (hs : μ 4 0 = 1) (g4 : RgC μ 4) (hsv : sv (cv μ 4) (μ 4 4) ≤ μ 4 2) (hsc : SCv (cv μ 4)) (hd : μ 4 4 ≤ 999) (h : ∀ μ1 : Mem, (∀ k, k ≠ 41 → k ≠ 44 → μ1 k = μ k) → (∀ i, i ≠ 5 → μ1 41 i = μ 41 i) → μ1 41 5 = μ 4 2 → OP (cv μ 4) (μ1 44) → Q none μ1) : Cl E 3 M_X3_openSeats [.inr 41, .inr 4] μ Q := by
  have N6 : 0 ≤ μ 4 1 ∧ μ 4 1 ≤ 6 := hV.2.1
  have D0 : 0 ≤ μ 4 4 := hV.2.2.2.1.1
  have S4 : 1 ≤ μ 4 2 ∧ μ 4 2 ≤ 4 := by
    rcases hV.1 with q | q
    · exact absurd (q.1.symm.trans hs) (by decide)
    · exact q.2.1
  obtain ⟨v, ev⟩ : ∃ v, v = cv μ 4 := ⟨_, rfl⟩
  have v1 : v 0 1 = μ 4 1 := by rw [ev]; rfl
  have v2 : v 0 2 = μ 4 2 := by rw [ev]; rfl
  have v4 : v 0 4 = μ 4 4 := by rw [ev]; rfl
  rw [← ev] at hV hsv hsc h
  have hp := hV.2.2.2.2.2
  refine s_X3_openSeats (fun μ1 e1 => ?_)
  -- the free seats
  have fill : ∀ x2 : Int, ∀ k : Int, 0 ≤ k → k ≤ μ 4 2 → ∀ μ' : Mem, (∀ j, j ≠ 41 → j ≠ 44 → μ' j = μ j) → (∀ i, i ≠ 5 → μ' 41 i = μ 41 i) → μ' 41 5 = k → (∀ s, 0 ≤ s → s < k → μ 4 4 + 1 ≤ μ' 44 s ∧ μ' 44 s ≤ 3000) → (∀ d, μ 4 4 + 1 ≤ d → sv v d = cntI (fun s => decide (d < μ' 44 s)) k) → Gg E 3 M_X3_openSeats 62 [some (.inr 41), some (.inr 4), some (.inl x2)] [] μ' Q := by
    intro x2 k0 hk0 hk1
    refine up_ind (N := μ 4 2) (P := fun k => ∀ μ' : Mem, (∀ j, j ≠ 41 → j ≠ 44 → μ' j = μ j) → (∀ i, i ≠ 5 → μ' 41 i = μ 41 i) → μ' 41 5 = k → (∀ s, 0 ≤ s → s < k → μ 4 4 + 1 ≤ μ' 44 s ∧ μ' 44 s ≤ 3000) → (∀ d, μ 4 4 + 1 ≤ d → sv v d = cntI (fun s => decide (d < μ' 44 s)) k) → Gg E 3 M_X3_openSeats 62 [some (.inr 41), some (.inr 4), some (.inl x2)] [] μ' Q) k0 hk1 (fun μ' k1 k2 k3 k4 k5 => ?_) (fun k kk0 kk1 ih μ' k1 k2 k3 k4 k5 => ?_)
    · have f2 : μ' 4 2 = μ 4 2 := by rw [k1 4 (by decide) (by decide)]
      refine s_X3_openSeats_62 ⟨by omega, by omega, fun _ => h μ' k1 k2 k3 ⟨fun s s0 s1 => ?_, fun d hd => ?_⟩, fun z => absurd (by omega) z⟩
      · have := k4 s s0 (by omega); omega
      · rw [k5 d (by omega), v2]
    · have f2 : μ' 4 2 = μ 4 2 := by rw [k1 4 (by decide) (by decide)]
      have f4 : μ' 4 4 = μ 4 4 := by rw [k1 4 (by decide) (by decide)]
      refine s_X3_openSeats_62 ⟨by omega, by omega, fun z => absurd z (by omega), fun _ => ⟨fun z => absurd z (by omega), fun _ => ⟨by omega, fun μ3 e3 μ5 e5 => ih μ5 (fun j a b => by rw [e5, up_ne a, e3, up_ne b, k1 j a b]) (fun i hi => by rw [e5, up_off (Or.inr hi), e3, up_ne (by decide), k2 i hi]) (by rw [e5, up_self, e3, up_ne (by decide), k3]) (fun s s0 s1 => ?_) (fun d hd => ?_)⟩⟩⟩
      · rw [e5, up_ne (by decide), e3]
        by_cases e : s = μ' 41 5
        · rw [e, up_self]; omega
        · rw [up_off (Or.inr e)]; exact k4 s s0 (by omega)
      · rw [cntI_succ (by omega), k5 d hd]
        have a : cntI (fun s => decide (d < μ5 44 s)) k = cntI (fun s => decide (d < μ' 44 s)) k := cntI_congr (fun s s0 s1 => by rw [e5, up_ne (by decide), e3, up_off (Or.inr (by omega))])
        have b : μ5 44 k = μ 4 4 + 1 := by rw [e5, up_ne (by decide), e3, ← k3, up_self, f4]
        rw [a, b, decide_eq_false (by omega)]
        show _ = _ + 0
        omega
  suffices hh : ∀ μ' : Mem, (∀ j, j ≠ 41 → j ≠ 44 → μ' j = μ j) → (∀ i, i ≠ 5 → μ' 41 i = μ 41 i) → μ' 41 5 = cntI (fun p => cServ v p (μ 4 4)) 0 → (∀ s, 0 ≤ s → s < cntI (fun p => cServ v p (μ 4 4)) 0 → μ 4 4 + 1 ≤ μ' 44 s ∧ μ' 44 s ≤ 3000) → (∀ d, μ 4 4 + 1 ≤ d → cntI (fun p => cServ v p d) 0 = cntI (fun s => decide (d < μ' 44 s)) (cntI (fun p => cServ v p (μ 4 4)) 0)) → Gg E 3 M_X3_openSeats 7 [some (.inr 41), some (.inr 4), some (.inl 0)] [] μ' Q from
    hh μ1 (fun j a b => by rw [e1, up_ne a]) (fun i hi => by rw [e1, up_off (Or.inr hi)]) (by rw [e1, up_self]; rfl) (fun s s0 s1 => absurd s1 (by rw [cntI_0]; omega)) (fun d _ => rfl)
  refine up_ind (N := μ 4 1) (P := fun c => ∀ μ' : Mem, (∀ j, j ≠ 41 → j ≠ 44 → μ' j = μ j) → (∀ i, i ≠ 5 → μ' 41 i = μ 41 i) → μ' 41 5 = cntI (fun p => cServ v p (μ 4 4)) c → (∀ s, 0 ≤ s → s < cntI (fun p => cServ v p (μ 4 4)) c → μ 4 4 + 1 ≤ μ' 44 s ∧ μ' 44 s ≤ 3000) → (∀ d, μ 4 4 + 1 ≤ d → cntI (fun p => cServ v p d) c = cntI (fun s => decide (d < μ' 44 s)) (cntI (fun p => cServ v p (μ 4 4)) c)) → Gg E 3 M_X3_openSeats 7 [some (.inr 41), some (.inr 4), some (.inl c)] [] μ' Q) 0 N6.1 (fun μ' k1 k2 k3 k4 k5 => ?_) (fun c c0 c1 ih μ' k1 k2 k3 k4 k5 => ?_)
  · have f1 : μ' 4 1 = μ 4 1 := by rw [k1 4 (by decide) (by decide)]
    have r := cntI_rng (f := fun p => cServ v p (μ 4 4)) (μ 4 1) N6.1
    have le : cntI (fun p => cServ v p (μ 4 4)) (μ 4 1) ≤ μ 4 2 := by
      unfold sv at hsv
      rw [v1] at hsv
      exact hsv
    refine s_X3_openSeats_7 ⟨by omega, by omega, fun _ => fill _ _ r.1 le μ' k1 k2 k3 k4 (fun d hd => ?_), fun z => absurd (by omega) z⟩
    unfold sv
    rw [v1]
    exact k5 d hd
  · have f1 : μ' 4 1 = μ 4 1 := by rw [k1 4 (by decide) (by decide)]
    have ev' : eqv v (cv μ' 4) := by rw [ev]; exact cv_eqv (fun k a b => k1 k (by omega) (by omega))
    have f4 : μ' 4 4 = μ 4 4 := by rw [k1 4 (by decide) (by decide)]
    have g4' : RgC μ' 4 := g4.cg (fun k a b => k1 k (by omega) (by omega))
    have pc := hp c c0 (by omega)
    have tc := pc.2.2.1
    have sc := hsc c c0 (by omega)
    have f8 : μ' (4 + 8) c = v 8 c := by rw [k1 (4 + 8) (by decide) (by decide), ev]; rfl
    have f6 : μ' (4 + 6) c = v 6 c := by rw [k1 (4 + 6) (by decide) (by decide), ev]; rfl
    have r := cntI_rng (f := fun p => cServ v p (μ 4 4)) c c0
    have sr := cState_rng (v := v) (p := c) (d := μ 4 4)
    have cs := cServ_state (v := v) (p := c) (d := μ 4 4)
    refine s_X3_openSeats_7 ⟨by omega, by omega, fun z => absurd z (by omega), fun _ => ?_⟩
    rw [← ev'.state, f4, f8, f6]
    refine ⟨g4', by omega, by omega, fun z => ?_, fun z => ?_⟩
    · have no : cServ v c (μ 4 4) = false := by rw [cs]; exact decide_eq_false z
      have no' : ∀ d, μ 4 4 + 1 ≤ d → cServ v c d = false := fun d hd => by
        unfold cServ at no ⊢
        have := of_decide_eq_false no
        exact decide_eq_false (fun q => this ⟨q.1, by omega⟩)
      have e0 : cntI (fun p => cServ v p (μ 4 4)) (c + 1) = cntI (fun p => cServ v p (μ 4 4)) c := by
        rw [cntI_succ c0, no]; exact Int.add_zero _
      refine ih μ' k1 k2 (by rw [e0]; exact k3) (by rw [e0]; exact k4) (fun d hd => ?_)
      rw [e0, cntI_succ c0, no' d hd, k5 d hd]; exact Int.add_zero _
    · have yes : cServ v c (μ 4 4) = true := by rw [cs]; exact decide_eq_true z
      have ys := yes
      unfold cServ at ys
      have ys := of_decide_eq_true ys
      have e0 : cntI (fun p => cServ v p (μ 4 4)) (c + 1) = cntI (fun p => cServ v p (μ 4 4)) c + 1 := by
        rw [cntI_succ c0, yes]; rfl
      have lt4 : cntI (fun p => cServ v p (μ 4 4)) c < 4 := by
        have a := cnt_up (f := fun p => cServ v p (μ 4 4)) c0 c1 yes
        unfold sv at hsv
        rw [v1] at hsv
        omega
      refine ⟨by omega, fun z2 => absurd z2 (by omega), fun _ => ⟨by omega, fun μ7 e7 μ9 e9 => ih μ9 (fun j a b => by rw [e9, up_ne a, e7, up_ne b, k1 j a b]) (fun i hi => by rw [e9, up_off (Or.inr hi), e7, up_ne (by decide), k2 i hi]) (by rw [e9, up_self, e7, up_ne (by decide), e0, k3]) (fun s s0 s1 => ?_) (fun d hd => ?_)⟩⟩
      · rw [e9, up_ne (by decide), e7]
        by_cases e : s = μ' 41 5
        · rw [e, up_self]; omega
        · rw [up_off (Or.inr e)]; exact k4 s s0 (by omega)
      · rw [e0, cntI_succ c0, cntI_succ r.1, k5 d hd]
        have a : cntI (fun s => decide (d < μ9 44 s)) (cntI (fun p => cServ v p (μ 4 4)) c) = cntI (fun s => decide (d < μ' 44 s)) (cntI (fun p => cServ v p (μ 4 4)) c) := cntI_congr (fun s s0 s1 => by rw [e9, up_ne (by decide), e7, up_off (Or.inr (by omega))])
        have b : μ9 44 (cntI (fun p => cServ v p (μ 4 4)) c) = v 8 c + v 6 c := by rw [e9, up_ne (by decide), e7, ← k3, up_self]
        rw [a, b]
        congr 2
        unfold cServ
        by_cases hq : d < v 8 c + v 6 c
        · rw [decide_eq_true hq]; exact decide_eq_true ⟨ys.1, hq⟩
        · rw [decide_eq_false hq]; exact decide_eq_false (fun q => hq q.2)
theorem pst_rng (hV : VC v) (hsc : SCv v) (hd : v 0 4 ≤ 999) : ∀ c : Int, 0 ≤ c → c ≤ v 0 1 → 0 ≤ pst v c ∧ pst v c ≤ 1000 * c := by
  refine foldI_inv (I := fun c x => 0 ≤ x ∧ x ≤ 1000 * c) (by decide) (fun p x p0 p1 hx => ?_)
  have pp := hV.2.2.2.2.2 p p0 p1
  have l := pp.2.2.2.1
  have s := hsc p p0 p1
  split
  · omega
  · split
    · rename_i h
      have := of_decide_eq_true h
      omega
    · omega
theorem k_X3_plan (hV : VC (cv μ 4)) (hs : μ 4 0 = 1) (g4 : RgC μ 4) (hsv : sv (cv μ 4) (μ 4 4) ≤ μ 4 2) (hsc : SCv (cv μ 4)) (hd : μ 4 4 ≤ 999) (h : ∀ (μ1 : Mem) (O : Int → Int), (∀ k, k ≠ 41 → k ≠ 42 → k ≠ 43 → k ≠ 44 → μ1 k = μ k) → OP (cv μ 4) O → μ1 41 1 = nW (cv μ 4) → WS (cv μ 4) O (pst (cv μ 4) (μ 4 1)) 1000000 (nW (cv μ 4) ^ (nW (cv μ 4)).toNat) (μ1 41 2) (μ1 42) → Q none μ1) : Cl E 21 M_X3_plan [.inr 41, .inr 4] μ Q := by
  have N6 : 0 ≤ μ 4 1 ∧ μ 4 1 ≤ 6 := hV.2.1
  have S4 : 1 ≤ μ 4 2 ∧ μ 4 2 ≤ 4 := by
    rcases hV.1 with q | q
    · exact absurd (q.1.symm.trans hs) (by decide)
    · exact q.2.1
  refine s_X3_plan (k_X3_openSeats hV hs g4 hsv hsc hd (fun μ1 k1 k2 k3 op => ⟨rfl, fun μ3 e3 μ4 e4 => ?_⟩))
  obtain ⟨v, ev⟩ : ∃ v, v = cv μ 4 := ⟨_, rfl⟩
  have v1 : v 0 1 = μ 4 1 := by rw [ev]; rfl
  have v2 : v 0 2 = μ 4 2 := by rw [ev]; rfl
  have v4 : v 0 4 = μ 4 4 := by rw [ev]; rfl
  rw [← ev] at hV hsv hsc h op
  have pr := pst_rng hV hsc (by omega)
  have hp := hV.2.2.2.2.2
  have n6 := nW_rng hV.2.1
  have D0 := hV.2.2.2.1
  have o4 : ∀ k, k ≠ 41 → k ≠ 44 → μ4 k = μ k := fun k a b => by rw [e4, up_ne a, e3, up_ne a, k1 k a b]
  have o44 : μ4 44 = μ1 44 := by rw [e4, up_ne (by decide), e3, up_ne (by decide)]
  have s45 : μ4 41 5 = μ 4 2 := by rw [e4, up_off (Or.inr (by decide)), e3, up_off (Or.inr (by decide))]; exact k3
  have s42 : μ4 41 2 = 1000000 := by rw [e4, up_self]
  have s41 : μ4 41 1 = 0 := by rw [e4, up_off (Or.inr (by decide)), e3, up_self]
  rw [← o44] at op
  suffices hh : ∀ (μ' : Mem) (B : Nat), (∀ k, k ≠ 41 → μ' k = μ4 k) → (∀ i, i ≠ 1 → μ' 41 i = μ4 41 i) → μ' 41 1 = cntI (wf v) 0 → B < 64 → (∀ a, 0 ≤ a → a < 6 → (B.testBit a.toNat = true ↔ (a < 0 ∧ wf v a = true))) → Gg E 21 M_X3_plan 23 [some (.inr 41), some (.inr 4), some (.inl (B : Int)), some (.inl (pst v 0)), some (.inl 0)] [] μ' Q from
    hh μ4 0 (fun _ _ => rfl) (fun _ _ => rfl) s41 (by decide) (fun a a0 a1 => ⟨fun q => by simp at q, fun q => absurd q.1 (by omega)⟩)
  refine up_ind (N := μ 4 1) (P := fun c => ∀ (μ' : Mem) (B : Nat), (∀ k, k ≠ 41 → μ' k = μ4 k) → (∀ i, i ≠ 1 → μ' 41 i = μ4 41 i) → μ' 41 1 = cntI (wf v) c → B < 64 → (∀ a, 0 ≤ a → a < 6 → (B.testBit a.toNat = true ↔ (a < c ∧ wf v a = true))) → Gg E 21 M_X3_plan 23 [some (.inr 41), some (.inr 4), some (.inl (B : Int)), some (.inl (pst v c)), some (.inl c)] [] μ' Q) 0 N6.1 (fun μ' B j1 j2 j3 hB bt => ?_) (fun c c0 c1 ih μ' B j1 j2 j3 hB bt => ?_)
  · have f1 : μ' 4 1 = μ 4 1 := by rw [j1 4 (by decide), o4 4 (by decide) (by decide)]
    have pN := pr (μ 4 1) N6.1 (by omega)
    have gi : GI v (μ4 44) := fun i i0 i1 => by have := op.1 i i0 i1; omega
    refine s_X3_plan_23 ⟨by omega, by omega, fun _ => k_dfs (v := v) (O := μ4 44) (u := pst v (μ 4 1)) hV (by omega) gi (by omega) (nW v).toNat 0 0 (pst v (μ 4 1)) B μ' 19 _ (by omega) (by decide) (by decide) (by omega) ⟨?_, ?_, ?_, ?_, ?_⟩ hB (fun z z0 z1 => ⟨fun i i0 i1 => absurd i1 (by omega), fun i j ri ij jn => absurd jn (by omega), ?_, fun a a0 a6 => ?_⟩) (Or.inl ⟨?_, fun y y0 y1 => absurd y1 (by rw [Int.zero_mul]; omega)⟩) (fun μ9 m1 m2 m3 w9 => ⟨rfl, h μ9 (μ4 44) (fun k x y z w => ?_) op ?_ ?_⟩), fun z => absurd (by omega) z⟩
    · rw [f1, v1]
    · rw [j1 (4 + 7) (by decide), o4 (4 + 7) (by decide) (by decide), ev]; rfl
    · rw [j1 (4 + 6) (by decide), o4 (4 + 6) (by decide) (by decide), ev]; rfl
    · rw [j3]; unfold nW; rw [v1]
    · rw [j2 5 (by decide), s45, v2]
    · rw [j1 44 (by decide)]; rfl
    · rw [bt a a0 a6, v1]
      exact ⟨fun q => ⟨q.1, q.2, fun i i0 i1 => absurd i1 (by omega)⟩, fun q => ⟨q.1, q.2.1⟩⟩
    · rw [j2 2 (by decide)]; exact s42
    · rw [m1 k x y z, j1 k x, o4 k x w]
    · rw [m2 1 (by decide), j3]; unfold nW; rw [v1]
    · rw [show ((0 : Int) + 1) * nW v ^ (nW v).toNat = nW v ^ (nW v).toNat by rw [Int.zero_add, Int.one_mul]] at w9
      exact w9
  · have f1 : μ' 4 1 = μ 4 1 := by rw [j1 4 (by decide), o4 4 (by decide) (by decide)]
    have f4 : μ' 4 4 = μ 4 4 := by rw [j1 4 (by decide), o4 4 (by decide) (by decide)]
    have ev' : eqv v (cv μ' 4) := by rw [ev]; exact cv_eqv (fun k a b => by rw [j1 k (by omega), o4 k (by omega) (by omega)])
    have g4' : RgC μ' 4 := g4.cg (fun k a b => by rw [j1 k (by omega), o4 k (by omega) (by omega)])
    have f8 : μ' (4 + 8) c = v 8 c := by rw [j1 (4 + 8) (by decide), o4 (4 + 8) (by decide) (by decide), ev]; rfl
    have f7 : μ' (4 + 7) c = v 7 c := by rw [j1 (4 + 7) (by decide), o4 (4 + 7) (by decide) (by decide), ev]; rfl
    have sr := cState_rng (v := v) (p := c) (d := μ 4 4)
    have ws := cState_wait (v := v) (p := c) (d := μ 4 4)
    have wfe : wf v c = cWait v c (μ 4 4) := by unfold wf; rw [v4]
    have ps : pst v (c + 1) = if wf v c = true then pst v c else pst v c + (if cSeat v c = true then v 8 c else v 7 c) := foldI_succ c0
    refine s_X3_plan_23 ⟨by omega, by omega, fun z => absurd z (by omega), fun _ => ?_⟩
    rw [← ev'.state, ← ev'.seat, f4, f8, f7]
    have skip : wf v c = false → cntI (wf v) (c + 1) = cntI (wf v) c ∧ ∀ a, 0 ≤ a → a < 6 → (B.testBit a.toNat = true ↔ (a < c + 1 ∧ wf v a = true)) := fun hf => by
      refine ⟨by rw [cntI_succ c0, hf]; exact Int.add_zero _, fun a a0 a6 => ?_⟩
      rw [bt a a0 a6]
      constructor
      · intro q; exact ⟨by omega, q.2⟩
      · intro q
        refine ⟨?_, q.2⟩
        by_cases e : a = c
        · rw [e, hf] at q; exact absurd q.2 (by decide)
        · omega
    refine ⟨g4', by omega, by omega, fun z => ⟨fun z2 => ?_, fun z2 => ?_⟩, fun z μ8 e8 => ?_⟩
    · have hf : wf v c = false := by
        rw [wfe]
        cases hw : cWait v c (μ 4 4)
        · rfl
        · exact absurd (ws.mpr hw) z
      obtain ⟨q1, q2⟩ := skip hf
      have := ih μ' B j1 j2 (by rw [q1]; exact j3) hB q2
      rw [ps, hf, if_neg (by decide), z2, if_neg (by decide)] at this
      exact this
    · have hf : wf v c = false := by
        rw [wfe]
        cases hw : cWait v c (μ 4 4)
        · rfl
        · exact absurd (ws.mpr hw) z
      obtain ⟨q1, q2⟩ := skip hf
      have := ih μ' B j1 j2 (by rw [q1]; exact j3) hB q2
      rw [ps, hf, if_neg (by decide), z2, if_pos rfl] at this
      exact this
    · have hf : wf v c = true := by rw [wfe]; exact ws.mp z
      have ba := bit_add B (by omega) c.toNat (by omega)
      rw [Int.toNat_of_nonneg c0] at ba
      rw [ba]
      have lt : B ||| 2 ^ c.toNat < 64 := Nat.or_lt_two_pow (n := 6) hB (Nat.lt_of_le_of_lt (Nat.pow_le_pow_right (by decide) (show c.toNat ≤ 5 by omega)) (by decide))
      have := ih μ8 (B ||| 2 ^ c.toNat) (fun k hk => by rw [e8, up_ne hk, j1 k hk]) (fun i hi => by rw [e8, up_off (Or.inr hi), j2 i hi]) (by rw [e8, up_self, j3, cntI_succ c0, hf]; rfl) lt (fun a a0 a6 => ?_)
      · rw [ps, hf, if_pos rfl] at this
        exact this
      · rw [Nat.testBit_or, Nat.testBit_two_pow, Bool.or_eq_true, decide_eq_true_eq, bt a a0 a6]
        constructor
        · rintro (q | q)
          · exact ⟨by omega, q.2⟩
          · have : a = c := by omega
            rw [this]; exact ⟨by omega, hf⟩
        · intro q
          by_cases e : a = c
          · right; rw [e]
          · left; exact ⟨by omega, q.2⟩
end P87

/-! Row, Acts, Asks. -/
set_option maxRecDepth 20000 in
theorem s_X0_forgetAll {E : Ex} {μ : Mem} {Q : Option Vl → Mem → Prop}  (h : ∀ μ1 : Mem, μ1 = up μ 25 5 0 → Q none μ1) : Cl E 0 M_X0_forgetAll [.inr 25] μ Q := by
  show Gg E 0 M_X0_forgetAll 0 [some (.inr 25)] [] μ Q
  refine r_aloadn (q := 1) DM_X0_forgetAll_0 rfl rfl ?_
  refine r_iconst (q := 2) (n := 0) DM_X0_forgetAll_1 rfl ?_
  refine v_put (q := 5) (ji := 5) DM_X0_forgetAll_2 rfl pfRX0_24 sh_25 rfl rfl (Or.inl rfl) (fun μ1 e1 => ?_)
  replace h := h μ1 e1
  exact r_ret (v := none) ⟨DM_X0_forgetAll_5, rfl⟩ h
set_option maxRecDepth 20000 in
theorem s_X0_latestPlace {E : Ex} {μ : Mem} {Q : Option Vl → Mem → Prop}  (h : Q (some (.inl (jrem (((μ 25 4) + (μ 25 5)) - 1) 24))) μ) : Cl E 0 M_X0_latestPlace [.inr 25] μ Q := by
  show Gg E 0 M_X0_latestPlace 0 [some (.inr 25)] [] μ Q
  refine r_aloadn (q := 1) DM_X0_latestPlace_0 rfl rfl ?_
  refine v_getI (q := 4) (ji := 4) DM_X0_latestPlace_1 rfl fRX0_32 sh_25 rfl rfl ?_
  refine r_aloadn (q := 5) DM_X0_latestPlace_4 rfl rfl ?_
  refine v_getI (q := 8) (ji := 5) DM_X0_latestPlace_5 rfl fRX0_24 sh_25 rfl rfl ?_
  refine r_iadd (q := 9) DM_X0_latestPlace_8 rfl ?_
  refine r_iconst (q := 10) (n := 1) DM_X0_latestPlace_9 rfl ?_
  refine r_isub (q := 11) DM_X0_latestPlace_10 rfl ?_
  refine r_bipush (q := 13) (n := 24) DM_X0_latestPlace_11 rfl (by decide) ?_
  refine r_irem (q := 14) DM_X0_latestPlace_13 rfl (by decide) ?_
  exact r_ret (v := some (.inl (jrem (((μ 25 4) + (μ 25 5)) - 1) 24))) ⟨DM_X0_latestPlace_14, Or.inl rfl⟩ h
set_option maxRecDepth 20000 in
theorem s_X0_keep {E : Ex} {μ : Mem} {Q : Option Vl → Mem → Prop} {x1 x2 x3 x4 : Int}  (h : inR (μ 25 5) ∧ ((μ 25 5) ≥ 24 → ∀ μ2 : Mem, μ2 = up μ 25 4 (jrem ((μ 25 4) + 1) 24) → Gg E 1 M_X0_keep 35 [some (.inr 25), some (.inl x1), some (.inl x2), some (.inl x3), some (.inl x4), none] [] μ2 Q) ∧ (¬ (μ 25 5) ≥ 24 → ∀ μ3 : Mem, μ3 = up μ 25 5 ((μ 25 5) + 1) → Gg E 1 M_X0_keep 35 [some (.inr 25), some (.inl x1), some (.inl x2), some (.inl x3), some (.inl x4), none] [] μ3 Q)) : Cl E 1 M_X0_keep [.inr 25, .inl x1, .inl x2, .inl x3, .inl x4] μ Q := by
  show Gg E 1 M_X0_keep 0 [some (.inr 25), some (.inl x1), some (.inl x2), some (.inl x3), some (.inl x4), none] [] μ Q
  refine r_aloadn (q := 1) DM_X0_keep_0 rfl rfl ?_
  refine v_getI (q := 4) (ji := 5) DM_X0_keep_1 rfl fRX0_24 sh_25 rfl rfl ?_
  refine r_bipush (q := 6) (n := 24) DM_X0_keep_4 rfl (by decide) ?_
  have i1 := h.1
  replace h := h.2
  refine r_icge (q := 9) (t := 22) DM_X0_keep_6 rfl (by decide) ⟨⟨i1, (by decide)⟩, fun cc => ?_, fun cc => ?_⟩
  · replace h := h.1 cc
    refine r_aloadn (q := 23) DM_X0_keep_22 rfl rfl ?_
    refine r_aloadn (q := 24) DM_X0_keep_23 rfl rfl ?_
    refine v_getI (q := 27) (ji := 4) DM_X0_keep_24 rfl fRX0_32 sh_25 rfl rfl ?_
    refine r_iconst (q := 28) (n := 1) DM_X0_keep_27 rfl ?_
    refine r_iadd (q := 29) DM_X0_keep_28 rfl ?_
    refine r_bipush (q := 31) (n := 24) DM_X0_keep_29 rfl (by decide) ?_
    refine r_irem (q := 32) DM_X0_keep_31 rfl (by decide) ?_
    refine v_put (q := 35) (ji := 4) DM_X0_keep_32 rfl pfRX0_32 sh_25 rfl rfl (Or.inl rfl) (fun μ2 e2 => ?_)
    replace h := h μ2 e2
    exact h
  · replace h := h.2 cc
    refine r_aloadn (q := 10) DM_X0_keep_9 rfl rfl ?_
    refine r_dup (q := 11) DM_X0_keep_10 rfl ?_
    refine v_getI (q := 14) (ji := 5) DM_X0_keep_11 rfl fRX0_24 sh_25 rfl rfl ?_
    refine r_iconst (q := 15) (n := 1) DM_X0_keep_14 rfl ?_
    refine r_iadd (q := 16) DM_X0_keep_15 rfl ?_
    refine v_put (q := 19) (ji := 5) DM_X0_keep_16 rfl pfRX0_24 sh_25 rfl rfl (Or.inl rfl) (fun μ3 e3 => ?_)
    replace h := h μ3 e3
    refine r_goto (q := 35) DM_X0_keep_19 (by decide) ?_
    exact h
set_option maxRecDepth 20000 in
theorem s_X0_keep_35 {E : Ex} {μ : Mem} {Q : Option Vl → Mem → Prop} {x1 x2 x3 x4 : Int}  (h : Cl E 0 M_X0_latestPlace [.inr 25] μ (fun vv μ1 => ∃ v2, vv = some (.inl v2) ∧ (0 ≤ v2 ∧ v2 < 24) ∧ ∀ μ3 : Mem, μ3 = up μ1 26 v2 x1 → (0 ≤ v2 ∧ v2 < 24) ∧ ∀ μ4 : Mem, μ4 = up μ3 27 v2 x2 → (0 ≤ v2 ∧ v2 < 24) ∧ ∀ μ5 : Mem, μ5 = up μ4 28 v2 x3 → (0 ≤ v2 ∧ v2 < 24) ∧ ∀ μ6 : Mem, μ6 = up μ5 29 v2 x4 → Q none μ6)) : Gg E 1 M_X0_keep 35 [some (.inr 25), some (.inl x1), some (.inl x2), some (.inl x3), some (.inl x4), none] [] μ Q := by
  refine r_aloadn (q := 36) DM_X0_keep_35 rfl rfl ?_
  refine r_callVi [] (q := 39) DM_X0_keep_36 rfl kM_X0_latestPlace lRX0_35 sh_25 rfl rfl (by decide) (Nat.le_of_ble_eq_true rfl) rfl (Cl.imp h (fun vv μ1 h => ?_))
  obtain ⟨v2, hv, h⟩ := h
  refine ⟨v2, hv, ?_⟩
  refine v_istore (q := 41) (ls' := [some (.inr 25), some (.inl x1), some (.inl x2), some (.inl x3), some (.inl x4), some (.inl v2)]) DM_X0_keep_39 rfl (by decide) rfl ?_
  refine r_aloadn (q := 42) DM_X0_keep_41 rfl rfl ?_
  refine r_getR (q := 45) (r := 26) DM_X0_keep_42 rfl fRX0_9 sh_25 rfl ?_
  refine r_iload (q := 47) DM_X0_keep_45 rfl rfl ?_
  refine r_iloadn (q := 48) DM_X0_keep_47 rfl rfl ?_
  refine v_iast (q := 49) DM_X0_keep_48 rfl sh_26 (by decide) ⟨h.1, fun μ3 e3 => ?_⟩
  replace h := h.2 μ3 e3
  refine r_aloadn (q := 50) DM_X0_keep_49 rfl rfl ?_
  refine r_getR (q := 53) (r := 27) DM_X0_keep_50 rfl fRX0_15 sh_25 rfl ?_
  refine r_iload (q := 55) DM_X0_keep_53 rfl rfl ?_
  refine r_iloadn (q := 56) DM_X0_keep_55 rfl rfl ?_
  refine v_iast (q := 57) DM_X0_keep_56 rfl sh_27 (by decide) ⟨h.1, fun μ4 e4 => ?_⟩
  replace h := h.2 μ4 e4
  refine r_aloadn (q := 58) DM_X0_keep_57 rfl rfl ?_
  refine r_getR (q := 61) (r := 28) DM_X0_keep_58 rfl fRX0_18 sh_25 rfl ?_
  refine r_iload (q := 63) DM_X0_keep_61 rfl rfl ?_
  refine r_iloadn (q := 64) DM_X0_keep_63 rfl rfl ?_
  refine v_iast (q := 65) DM_X0_keep_64 rfl sh_28 (by decide) ⟨h.1, fun μ5 e5 => ?_⟩
  replace h := h.2 μ5 e5
  refine r_aloadn (q := 66) DM_X0_keep_65 rfl rfl ?_
  refine r_getR (q := 69) (r := 29) DM_X0_keep_66 rfl fRX0_21 sh_25 rfl ?_
  refine r_iload (q := 71) DM_X0_keep_69 rfl rfl ?_
  refine r_iload (q := 73) DM_X0_keep_71 rfl rfl ?_
  refine v_iast (q := 74) DM_X0_keep_73 rfl sh_29 (by decide) ⟨h.1, fun μ6 e6 => ?_⟩
  replace h := h.2 μ6 e6
  exact r_ret (v := none) ⟨DM_X0_keep_74, rfl⟩ h
set_option maxRecDepth 20000 in
theorem s_X0_keepDay {E : Ex} {μ : Mem} {Q : Option Vl → Mem → Prop}  (h : Cl E 1 M_X0_keep [.inr 25, .inl 0, .inl 0, .inl 0, .inl 0] μ (fun vv μ1 => vv = none ∧ Q none μ1)) : Cl E 2 M_X0_keepDay [.inr 25] μ Q := by
  show Gg E 2 M_X0_keepDay 0 [some (.inr 25)] [] μ Q
  refine r_aloadn (q := 1) DM_X0_keepDay_0 rfl rfl ?_
  refine r_iconst (q := 2) (n := 0) DM_X0_keepDay_1 rfl ?_
  refine r_iconst (q := 3) (n := 0) DM_X0_keepDay_2 rfl ?_
  refine r_iconst (q := 4) (n := 0) DM_X0_keepDay_3 rfl ?_
  refine r_iconst (q := 5) (n := 0) DM_X0_keepDay_4 rfl ?_
  refine r_callVv [.inl 0, .inl 0, .inl 0, .inl 0] (q := 8) DM_X0_keepDay_5 rfl kM_X0_keep lRX0_28 sh_25 rfl rfl (by decide) (Nat.le_of_ble_eq_true rfl) rfl (Cl.imp h (fun vv μ1 h => ?_))
  obtain ⟨hv, h⟩ := h
  refine ⟨hv, ?_⟩
  exact r_ret (v := none) ⟨DM_X0_keepDay_8, rfl⟩ h
set_option maxRecDepth 20000 in
theorem s_X0_keepForged {E : Ex} {μ : Mem} {Q : Option Vl → Mem → Prop} {x1 x2 x3 : Int}  (h : Cl E 1 M_X0_keep [.inr 25, .inl 1, .inl x1, .inl x2, .inl x3] μ (fun vv μ1 => vv = none ∧ Q none μ1)) : Cl E 2 M_X0_keepForged [.inr 25, .inl x1, .inl x2, .inl x3] μ Q := by
  show Gg E 2 M_X0_keepForged 0 [some (.inr 25), some (.inl x1), some (.inl x2), some (.inl x3)] [] μ Q
  refine r_aloadn (q := 1) DM_X0_keepForged_0 rfl rfl ?_
  refine r_iconst (q := 2) (n := 1) DM_X0_keepForged_1 rfl ?_
  refine r_iloadn (q := 3) DM_X0_keepForged_2 rfl rfl ?_
  refine r_iloadn (q := 4) DM_X0_keepForged_3 rfl rfl ?_
  refine r_iloadn (q := 5) DM_X0_keepForged_4 rfl rfl ?_
  refine r_callVv [.inl 1, .inl x1, .inl x2, .inl x3] (q := 8) DM_X0_keepForged_5 rfl kM_X0_keep lRX0_28 sh_25 rfl rfl (by decide) (Nat.le_of_ble_eq_true rfl) rfl (Cl.imp h (fun vv μ1 h => ?_))
  obtain ⟨hv, h⟩ := h
  refine ⟨hv, ?_⟩
  exact r_ret (v := none) ⟨DM_X0_keepForged_8, rfl⟩ h
set_option maxRecDepth 20000 in
theorem s_X0_keepLost {E : Ex} {μ : Mem} {Q : Option Vl → Mem → Prop} {x1 : Int}  (h : Cl E 1 M_X0_keep [.inr 25, .inl 2, .inl 0, .inl 0, .inl x1] μ (fun vv μ1 => vv = none ∧ Q none μ1)) : Cl E 2 M_X0_keepLost [.inr 25, .inl x1] μ Q := by
  show Gg E 2 M_X0_keepLost 0 [some (.inr 25), some (.inl x1)] [] μ Q
  refine r_aloadn (q := 1) DM_X0_keepLost_0 rfl rfl ?_
  refine r_iconst (q := 2) (n := 2) DM_X0_keepLost_1 rfl ?_
  refine r_iconst (q := 3) (n := 0) DM_X0_keepLost_2 rfl ?_
  refine r_iconst (q := 4) (n := 0) DM_X0_keepLost_3 rfl ?_
  refine r_iloadn (q := 5) DM_X0_keepLost_4 rfl rfl ?_
  refine r_callVv [.inl 2, .inl 0, .inl 0, .inl x1] (q := 8) DM_X0_keepLost_5 rfl kM_X0_keep lRX0_28 sh_25 rfl rfl (by decide) (Nat.le_of_ble_eq_true rfl) rfl (Cl.imp h (fun vv μ1 h => ?_))
  obtain ⟨hv, h⟩ := h
  refine ⟨hv, ?_⟩
  exact r_ret (v := none) ⟨DM_X0_keepLost_8, rfl⟩ h
set_option maxRecDepth 20000 in
theorem s_X0_takeBack {E : Ex} {μ : Mem} {Q : Option Vl → Mem → Prop}  (h : inR (μ 25 5) ∧ ((μ 25 5) ≠ 0 → Cl E 0 M_X0_latestPlace [.inr 25] μ (fun vv μ2 => ∃ v3, vv = some (.inl v3) ∧ ∀ μ4 : Mem, μ4 = up μ2 25 5 ((μ2 25 5) - 1) → (0 ≤ v3 ∧ v3 < 24) ∧ inR (μ4 26 v3) ∧ ((μ4 26 v3) = 0 → (RgC μ4 4) ∧ (0 ≤ μ4 4 1 ∧ μ4 4 1 ≤ 6) ∧ ∀ μ9 : Mem, chC μ4 μ9 4 (upv (tbC (cv μ4 4) (μ4 4 1)) 0 4 (μ4 4 4 - 1)) → Q none μ9) ∧ ((μ4 26 v3) = 1 → (0 ≤ (μ4 27 v3) * 4 + (μ4 28 v3) ∧ (μ4 27 v3) * 4 + (μ4 28 v3) < 24) ∧ ∀ μ11 : Mem, μ11 = up μ4 (4 + 5) ((μ4 27 v3) * 4 + (μ4 28 v3)) (μ4 29 v3) → Q none μ11) ∧ (¬ (μ4 26 v3) = 0 ∧ ¬ (μ4 26 v3) = 1 → ∀ μ12 : Mem, μ12 = up μ4 4 5 (jxor (μ4 4 5) (jshl 1 (μ4 29 v3))) → Q none μ12))) ∧ ((μ 25 5) = 0 → Q none μ)) : Cl E 1 M_X0_takeBack [.inr 25, .inr 4] μ Q := by
  show Gg E 1 M_X0_takeBack 0 [some (.inr 25), some (.inr 4), none] [] μ Q
  refine r_aloadn (q := 1) DM_X0_takeBack_0 rfl rfl ?_
  refine v_getI (q := 4) (ji := 5) DM_X0_takeBack_1 rfl fRX0_24 sh_25 rfl rfl ?_
  have i1 := h.1
  replace h := h.2
  refine r_ifne (q := 7) (t := 8) DM_X0_takeBack_4 rfl (by decide) ⟨i1, fun cc => ?_, fun cc => ?_⟩
  · replace h := h.1 cc
    refine r_aloadn (q := 9) DM_X0_takeBack_8 rfl rfl ?_
    refine r_callVi [] (q := 12) DM_X0_takeBack_9 rfl kM_X0_latestPlace lRX0_35 sh_25 rfl rfl (by decide) (Nat.le_of_ble_eq_true rfl) rfl (Cl.imp h (fun vv μ2 h => ?_))
    obtain ⟨v3, hv, h⟩ := h
    refine ⟨v3, hv, ?_⟩
    refine v_istoren (q := 13) (ls' := [some (.inr 25), some (.inr 4), some (.inl v3)]) DM_X0_takeBack_12 rfl (by decide) rfl ?_
    refine r_aloadn (q := 14) DM_X0_takeBack_13 rfl rfl ?_
    refine r_dup (q := 15) DM_X0_takeBack_14 rfl ?_
    refine v_getI (q := 18) (ji := 5) DM_X0_takeBack_15 rfl fRX0_24 sh_25 rfl rfl ?_
    refine r_iconst (q := 19) (n := 1) DM_X0_takeBack_18 rfl ?_
    refine r_isub (q := 20) DM_X0_takeBack_19 rfl ?_
    refine v_put (q := 23) (ji := 5) DM_X0_takeBack_20 rfl pfRX0_24 sh_25 rfl rfl (Or.inl rfl) (fun μ4 e4 => ?_)
    replace h := h μ4 e4
    refine r_aloadn (q := 24) DM_X0_takeBack_23 rfl rfl ?_
    refine r_getR (q := 27) (r := 26) DM_X0_takeBack_24 rfl fRX0_9 sh_25 rfl ?_
    refine r_iloadn (q := 28) DM_X0_takeBack_27 rfl rfl ?_
    refine r_iald (q := 29) DM_X0_takeBack_28 rfl sh_26 (by decide) ⟨h.1, ?_⟩
    have i5 := h.1
    replace h := h.2
    have i6 := h.1
    replace h := h.2
    by_cases c0 : (μ4 26 v3) = 0
    · replace h := h.1 c0
      refine r_lsw (off := 27) (q := 56) DM_X0_takeBack_29 i6 (by decide) (by rw [c0]; rfl) (by decide) ?_
      refine r_aloadn (q := 57) DM_X0_takeBack_56 rfl rfl ?_
      have i7 := h.1
      replace h := h.2
      have i8 := h.1
      replace h := h.2
      refine r_callVv [] (q := 60) DM_X0_takeBack_57 rfl kM_X2_takeBackDay lRX0_39 (co0 cK_4) rfl rfl (by decide) (Nat.le_of_ble_eq_true rfl) rfl (k_X2_takeBackDay cK_4 i7 i8 (fun μ9 e9 => ⟨rfl, ?_⟩))
      replace h := h μ9 e9
      refine r_goto (q := 105) DM_X0_takeBack_60 (by decide) ?_
      exact r_ret (v := none) ⟨DM_X0_takeBack_105, rfl⟩ h
    by_cases c1 : (μ4 26 v3) = 1
    · replace h := h.2.1 c1
      refine r_lsw (off := 34) (q := 63) DM_X0_takeBack_29 i6 (by decide) (by rw [c1]; rfl) (by decide) ?_
      refine r_aloadn (q := 64) DM_X0_takeBack_63 rfl rfl ?_
      refine r_aloadn (q := 65) DM_X0_takeBack_64 rfl rfl ?_
      refine r_getR (q := 68) (r := 27) DM_X0_takeBack_65 rfl fRX0_15 sh_25 rfl ?_
      refine r_iloadn (q := 69) DM_X0_takeBack_68 rfl rfl ?_
      refine r_iald (q := 70) DM_X0_takeBack_69 rfl sh_27 (by decide) ⟨i5, ?_⟩
      refine r_aloadn (q := 71) DM_X0_takeBack_70 rfl rfl ?_
      refine r_getR (q := 74) (r := 28) DM_X0_takeBack_71 rfl fRX0_18 sh_25 rfl ?_
      refine r_iloadn (q := 75) DM_X0_takeBack_74 rfl rfl ?_
      refine r_iald (q := 76) DM_X0_takeBack_75 rfl sh_28 (by decide) ⟨i5, ?_⟩
      refine r_aloadn (q := 77) DM_X0_takeBack_76 rfl rfl ?_
      refine r_getR (q := 80) (r := 29) DM_X0_takeBack_77 rfl fRX0_21 sh_25 rfl ?_
      refine r_iloadn (q := 81) DM_X0_takeBack_80 rfl rfl ?_
      refine r_iald (q := 82) DM_X0_takeBack_81 rfl sh_29 (by decide) ⟨i5, ?_⟩
      have i10 := h.1
      replace h := h.2
      refine r_callVv [.inl (μ4 27 v3), .inl (μ4 28 v3), .inl (μ4 29 v3)] (q := 85) DM_X0_takeBack_82 rfl kM_X2_putLetter lRX0_44 (co0 cK_4) rfl rfl (by decide) (Nat.le_of_ble_eq_true rfl) rfl (k_X2_putLetter cK_4 i10 (fun μ11 e11 => ⟨rfl, ?_⟩))
      replace h := h μ11 e11
      refine r_goto (q := 105) DM_X0_takeBack_85 (by decide) ?_
      exact r_ret (v := none) ⟨DM_X0_takeBack_105, rfl⟩ h
    replace h := h.2.2 ⟨c0, c1⟩
    refine r_lsw (off := 59) (q := 88) DM_X0_takeBack_29 i6 (by decide) (by simp only [List.toList_toArray, Op.lookupswitch.offset_cons, Op.lookupswitch.offset]; rw [if_neg (fun z => c0 z.symm)]; rw [if_neg (fun z => c1 z.symm)]) (by decide) ?_
    refine r_aloadn (q := 89) DM_X0_takeBack_88 rfl rfl ?_
    refine r_dup (q := 90) DM_X0_takeBack_89 rfl ?_
    refine v_getI (q := 93) (ji := 5) DM_X0_takeBack_90 rfl fRX0_48 (co0 cK_4) rfl rfl ?_
    refine r_iconst (q := 94) (n := 1) DM_X0_takeBack_93 rfl ?_
    refine r_aloadn (q := 95) DM_X0_takeBack_94 rfl rfl ?_
    refine r_getR (q := 98) (r := 29) DM_X0_takeBack_95 rfl fRX0_21 sh_25 rfl ?_
    refine r_iloadn (q := 99) DM_X0_takeBack_98 rfl rfl ?_
    refine r_iald (q := 100) DM_X0_takeBack_99 rfl sh_29 (by decide) ⟨i5, ?_⟩
    refine r_ishl (q := 101) DM_X0_takeBack_100 rfl ?_
    refine r_ixor (q := 102) DM_X0_takeBack_101 rfl ?_
    refine v_put (q := 105) (ji := 5) DM_X0_takeBack_102 rfl pfRX0_48 (co0 cK_4) rfl rfl (Or.inl rfl) (fun μ12 e12 => ?_)
    replace h := h μ12 e12
    exact r_ret (v := none) ⟨DM_X0_takeBack_105, rfl⟩ h
  · replace h := h.2 cc
    exact r_ret (v := none) ⟨DM_X0_takeBack_7, rfl⟩ h
set_option maxRecDepth 20000 in
theorem s_X1_leave {E : Ex} {μ : Mem} {Q : Option Vl → Mem → Prop} {x1 : Int}  (h : inR (μ 45 1) ∧ ((μ 45 1) ≥ 16 → Q none μ) ∧ (¬ (μ 45 1) ≥ 16 → (0 ≤ (μ 45 1) ∧ (μ 45 1) < 16) ∧ ∀ μ2 : Mem, μ2 = up μ 46 (μ 45 1) x1 → ∀ μ3 : Mem, μ3 = up μ2 45 1 ((μ2 45 1) + 1) → Q none μ3)) : Cl E 0 M_X1_leave [.inr 45, .inl x1] μ Q := by
  show Gg E 0 M_X1_leave 0 [some (.inr 45), some (.inl x1)] [] μ Q
  refine r_aloadn (q := 1) DM_X1_leave_0 rfl rfl ?_
  refine v_getI (q := 4) (ji := 1) DM_X1_leave_1 rfl fRX1_15 sh_45 rfl rfl ?_
  refine r_bipush (q := 6) (n := 16) DM_X1_leave_4 rfl (by decide) ?_
  have i1 := h.1
  replace h := h.2
  refine r_icge (q := 9) (t := 29) DM_X1_leave_6 rfl (by decide) ⟨⟨i1, (by decide)⟩, fun cc => ?_, fun cc => ?_⟩
  · replace h := h.1 cc
    exact r_ret (v := none) ⟨DM_X1_leave_29, rfl⟩ h
  · replace h := h.2 cc
    refine r_aloadn (q := 10) DM_X1_leave_9 rfl rfl ?_
    refine r_getR (q := 13) (r := 46) DM_X1_leave_10 rfl fRX1_9 sh_45 rfl ?_
    refine r_aloadn (q := 14) DM_X1_leave_13 rfl rfl ?_
    refine v_getI (q := 17) (ji := 1) DM_X1_leave_14 rfl fRX1_15 sh_45 rfl rfl ?_
    refine r_iloadn (q := 18) DM_X1_leave_17 rfl rfl ?_
    refine v_iast (q := 19) DM_X1_leave_18 rfl sh_46 (by decide) ⟨h.1, fun μ2 e2 => ?_⟩
    replace h := h.2 μ2 e2
    refine r_aloadn (q := 20) DM_X1_leave_19 rfl rfl ?_
    refine r_dup (q := 21) DM_X1_leave_20 rfl ?_
    refine v_getI (q := 24) (ji := 1) DM_X1_leave_21 rfl fRX1_15 sh_45 rfl rfl ?_
    refine r_iconst (q := 25) (n := 1) DM_X1_leave_24 rfl ?_
    refine r_iadd (q := 26) DM_X1_leave_25 rfl ?_
    refine v_put (q := 29) (ji := 1) DM_X1_leave_26 rfl pfRX1_15 sh_45 rfl rfl (Or.inl rfl) (fun μ3 e3 => ?_)
    replace h := h μ3 e3
    exact r_ret (v := none) ⟨DM_X1_leave_29, rfl⟩ h
set_option maxRecDepth 20000 in
theorem s_X1_answer {E : Ex} {μ : Mem} {Q : Option Vl → Mem → Prop} {x2 x3 : Int}  (h : ∀ μ1 : Mem, μ1 = up μ 45 1 0 → (0 ≤ x2 ∧ x2 < 6) ∧ inR x3 ∧ (x3 ≠ 0 → (0 ≤ (μ1 (4 + 3) x2) ∧ (μ1 (4 + 3) x2) < 6) ∧ Cl E 20 M_X1_give [.inr 45, .inr 4, .inl x2, .inl (eR E 3 ((μ1 (4 + 3) x2)).toNat), .inl 0] μ1 (fun vv μ4 => ∃ v5, vv = some (.inl v5) ∧ Q (some (.inl v5)) μ4)) ∧ (x3 = 0 → (0 ≤ (μ1 (4 + 3) x2) ∧ (μ1 (4 + 3) x2) < 6) ∧ Cl E 20 M_X1_give [.inr 45, .inr 4, .inl x2, .inl (eR E 2 ((μ1 (4 + 3) x2)).toNat), .inl 0] μ1 (fun vv μ6 => ∃ v7, vv = some (.inl v7) ∧ Q (some (.inl v7)) μ6))) : Cl E 21 M_X1_answer [.inr 45, .inr 4, .inl x2, .inl x3] μ Q := by
  show Gg E 21 M_X1_answer 0 [some (.inr 45), some (.inr 4), some (.inl x2), some (.inl x3), none] [] μ Q
  refine r_aloadn (q := 1) DM_X1_answer_0 rfl rfl ?_
  refine r_iconst (q := 2) (n := 0) DM_X1_answer_1 rfl ?_
  refine v_put (q := 5) (ji := 1) DM_X1_answer_2 rfl pfRX1_15 sh_45 rfl rfl (Or.inl rfl) (fun μ1 e1 => ?_)
  replace h := h μ1 e1
  refine r_aloadn (q := 6) DM_X1_answer_5 rfl rfl ?_
  refine r_getR (q := 9) (r := 4 + 3) DM_X1_answer_6 rfl fRX1_19 (co0 cK_4) rfl ?_
  refine r_iloadn (q := 10) DM_X1_answer_9 rfl rfl ?_
  refine r_iald (q := 11) DM_X1_answer_10 rfl (co3 cK_4) (by decide) ⟨h.1, ?_⟩
  have i2 := h.1
  replace h := h.2
  refine v_istore (q := 13) (ls' := [some (.inr 45), some (.inr 4), some (.inl x2), some (.inl x3), some (.inl (μ1 (4 + 3) x2))]) DM_X1_answer_11 rfl (by decide) rfl ?_
  refine r_aloadn (q := 14) DM_X1_answer_13 rfl rfl ?_
  refine r_aloadn (q := 15) DM_X1_answer_14 rfl rfl ?_
  refine r_iloadn (q := 16) DM_X1_answer_15 rfl rfl ?_
  refine r_iloadn (q := 17) DM_X1_answer_16 rfl rfl ?_
  have i3 := h.1
  replace h := h.2
  refine r_ifne (q := 20) (t := 29) DM_X1_answer_17 rfl (by decide) ⟨i3, fun cc => ?_, fun cc => ?_⟩
  · replace h := h.1 cc
    refine r_gets (q := 32) (t := 3) DM_X1_answer_29 rfl (by decide) zRX1_27 ?_
    refine r_iload (q := 34) DM_X1_answer_32 rfl rfl ?_
    refine v_tald (q := 35) (t := 3) (N := 6) DM_X1_answer_34 rfl (by decide) rfl ⟨h.1, ?_⟩
    replace h := h.2
    refine r_iconst (q := 36) (n := 0) DM_X1_answer_35 rfl ?_
    refine r_callVi [.inr 4, .inl x2, .inl (eR E 3 ((μ1 (4 + 3) x2)).toNat), .inl 0] (q := 39) DM_X1_answer_36 rfl kM_X1_give lRX1_30 sh_45 rfl rfl (by decide) (Nat.le_of_ble_eq_true rfl) rfl (Cl.imp h (fun vv μ4 h => ?_))
    obtain ⟨v5, hv, h⟩ := h
    refine ⟨v5, hv, ?_⟩
    exact r_ret (v := some (.inl v5)) ⟨DM_X1_answer_39, Or.inl rfl⟩ h
  · replace h := h.2 cc
    refine r_gets (q := 23) (t := 2) DM_X1_answer_20 rfl (by decide) zRX1_24 ?_
    refine r_iload (q := 25) DM_X1_answer_23 rfl rfl ?_
    refine v_tald (q := 26) (t := 2) (N := 6) DM_X1_answer_25 rfl (by decide) rfl ⟨h.1, ?_⟩
    replace h := h.2
    refine r_goto (q := 35) DM_X1_answer_26 (by decide) ?_
    refine r_iconst (q := 36) (n := 0) DM_X1_answer_35 rfl ?_
    refine r_callVi [.inr 4, .inl x2, .inl (eR E 2 ((μ1 (4 + 3) x2)).toNat), .inl 0] (q := 39) DM_X1_answer_36 rfl kM_X1_give lRX1_30 sh_45 rfl rfl (by decide) (Nat.le_of_ble_eq_true rfl) rfl (Cl.imp h (fun vv μ6 h => ?_))
    obtain ⟨v7, hv, h⟩ := h
    refine ⟨v7, hv, ?_⟩
    exact r_ret (v := some (.inl v7)) ⟨DM_X1_answer_39, Or.inl rfl⟩ h
set_option maxRecDepth 20000 in
theorem s_X7_isOfKind {E : Ex} {μ : Mem} {Q : Option Vl → Mem → Prop} {x0 x1 : Int}  (h : Gg E 1 M_X7_isOfKind 4 [some (.inl x0), some (.inl x1), some (.inl x0), some (.inl 0)] [] μ Q) : Cl E 1 M_X7_isOfKind [.inl x0, .inl x1] μ Q := by
  show Gg E 1 M_X7_isOfKind 0 [some (.inl x0), some (.inl x1), none, none] [] μ Q
  refine r_iloadn (q := 1) DM_X7_isOfKind_0 rfl rfl ?_
  refine v_istoren (q := 2) (ls' := [some (.inl x0), some (.inl x1), some (.inl x0), none]) DM_X7_isOfKind_1 rfl (by decide) rfl ?_
  refine r_iconst (q := 3) (n := 0) DM_X7_isOfKind_2 rfl ?_
  refine v_istoren (q := 4) (ls' := [some (.inl x0), some (.inl x1), some (.inl x0), some (.inl 0)]) DM_X7_isOfKind_3 rfl (by decide) rfl ?_
  exact h
set_option maxRecDepth 20000 in
theorem s_X7_isOfKind_4 {E : Ex} {μ : Mem} {Q : Option Vl → Mem → Prop} {x0 x1 x2 x3 : Int}  (h : inR x3 ∧ (x3 ≥ 6 → Q (some (.inl (bi false))) μ) ∧ (¬ x3 ≥ 6 → inR x2 ∧ (¬ (0 ≤ x2 ∧ x2 < 6) → Q (some (.inl (bi false))) μ) ∧ ((0 ≤ x2 ∧ x2 < 6) → inR x1 ∧ (x2 ≠ x1 → (0 ≤ x2 ∧ x2 < 6) ∧ Gg E 1 M_X7_isOfKind 4 [some (.inl x0), some (.inl x1), some (.inl (eR E 0 (x2).toNat)), some (.inl (x3 + 1))] [] μ Q) ∧ (x2 = x1 → Q (some (.inl (bi true))) μ)))) : Gg E 1 M_X7_isOfKind 4 [some (.inl x0), some (.inl x1), some (.inl x2), some (.inl x3)] [] μ Q := by
  refine r_iloadn (q := 5) DM_X7_isOfKind_4 rfl rfl ?_
  refine r_bipush (q := 7) (n := 6) DM_X7_isOfKind_5 rfl (by decide) ?_
  have i1 := h.1
  replace h := h.2
  refine r_icge (q := 10) (t := 38) DM_X7_isOfKind_7 rfl (by decide) ⟨⟨i1, (by decide)⟩, fun cc => ?_, fun cc => ?_⟩
  · replace h := h.1 cc
    refine r_iconst (q := 39) (n := 0) DM_X7_isOfKind_38 rfl ?_
    exact r_ret (v := some (.inl 0)) ⟨DM_X7_isOfKind_39, Or.inr ⟨rfl, Or.inl rfl⟩⟩ h
  · replace h := h.2 cc
    refine r_iloadn (q := 11) DM_X7_isOfKind_10 rfl rfl ?_
    refine r_bipush (q := 13) (n := 6) DM_X7_isOfKind_11 rfl (by decide) ?_
    have i2 := h.1
    replace h := h.2
    refine r_callSi [.inl x2, .inl 6] (q := 16) DM_X7_isOfKind_13 rfl kM_X7_isIn lRX7_65 rfl (by decide) (Nat.le_of_ble_eq_true rfl) rfl (k_X7_isIn i2 (by decide) ⟨_, rfl, ?_⟩)
    refine r_bieq (q := 19) (t := 38) DM_X7_isOfKind_16 rfl (by decide) ⟨fun cc => ?_, fun cc => ?_⟩
    · replace h := h.1 cc
      refine r_iconst (q := 39) (n := 0) DM_X7_isOfKind_38 rfl ?_
      exact r_ret (v := some (.inl 0)) ⟨DM_X7_isOfKind_39, Or.inr ⟨rfl, Or.inl rfl⟩⟩ h
    · replace h := h.2 cc
      refine r_iloadn (q := 20) DM_X7_isOfKind_19 rfl rfl ?_
      refine r_iloadn (q := 21) DM_X7_isOfKind_20 rfl rfl ?_
      have i3 := h.1
      replace h := h.2
      refine r_icne (q := 24) (t := 26) DM_X7_isOfKind_21 rfl (by decide) ⟨⟨i2, i3⟩, fun cc => ?_, fun cc => ?_⟩
      · replace h := h.1 cc
        refine r_gets (q := 29) (t := 0) DM_X7_isOfKind_26 rfl (by decide) zRX7_283 ?_
        refine r_iloadn (q := 30) DM_X7_isOfKind_29 rfl rfl ?_
        refine v_tald (q := 31) (t := 0) (N := 6) DM_X7_isOfKind_30 rfl (by decide) rfl ⟨h.1, ?_⟩
        replace h := h.2
        refine v_istoren (q := 32) (ls' := [some (.inl x0), some (.inl x1), some (.inl (eR E 0 (x2).toNat)), some (.inl x3)]) DM_X7_isOfKind_31 rfl (by decide) rfl ?_
        refine v_iinc (q := 35) (ls' := [some (.inl x0), some (.inl x1), some (.inl (eR E 0 (x2).toNat)), some (.inl (x3 + 1))]) DM_X7_isOfKind_32 rfl rfl (by decide) rfl ?_
        refine r_goto (q := 4) DM_X7_isOfKind_35 (by decide) ?_
        exact h
      · replace h := h.2 cc
        refine r_iconst (q := 25) (n := 1) DM_X7_isOfKind_24 rfl ?_
        exact r_ret (v := some (.inl 1)) ⟨DM_X7_isOfKind_25, Or.inr ⟨rfl, Or.inr rfl⟩⟩ h
set_option maxRecDepth 20000 in
theorem s_X7_howManyRows {E : Ex} {μ : Mem} {Q : Option Vl → Mem → Prop}  (h : Gg E 1 M_X7_howManyRows 4 [some (.inr 0), some (.inl 0), some (.inl 0)] [] μ Q) : Cl E 1 M_X7_howManyRows [.inr 0] μ Q := by
  show Gg E 1 M_X7_howManyRows 0 [some (.inr 0), none, none] [] μ Q
  refine r_iconst (q := 1) (n := 0) DM_X7_howManyRows_0 rfl ?_
  refine v_istoren (q := 2) (ls' := [some (.inr 0), some (.inl 0), none]) DM_X7_howManyRows_1 rfl (by decide) rfl ?_
  refine r_iconst (q := 3) (n := 0) DM_X7_howManyRows_2 rfl ?_
  refine v_istoren (q := 4) (ls' := [some (.inr 0), some (.inl 0), some (.inl 0)]) DM_X7_howManyRows_3 rfl (by decide) rfl ?_
  exact h
set_option maxRecDepth 20000 in
theorem s_X7_howManyRows_4 {E : Ex} {μ : Mem} {Q : Option Vl → Mem → Prop} {x1 x2 : Int}  (h : inR x2 ∧ (x2 ≥ 8 → Q (some (.inl x1)) μ) ∧ (¬ x2 ≥ 8 → (0 ≤ x2 ∧ x2 < 8) ∧ (roS (rw x2) → inR (μ (rw x2) 2) ∧ ((μ (rw x2) 2 = -1) → Gg E 1 M_X7_howManyRows 4 [some (.inr 0), some (.inl x1), some (.inl (x2 + 1))] [] μ Q) ∧ (¬ (μ (rw x2) 2 = -1) → Gg E 1 M_X7_howManyRows 4 [some (.inr 0), some (.inl (x1 + 1)), some (.inl (x2 + 1))] [] μ Q)))) : Gg E 1 M_X7_howManyRows 4 [some (.inr 0), some (.inl x1), some (.inl x2)] [] μ Q := by
  refine r_iloadn (q := 5) DM_X7_howManyRows_4 rfl rfl ?_
  refine r_bipush (q := 7) (n := 8) DM_X7_howManyRows_5 rfl (by decide) ?_
  have i1 := h.1
  replace h := h.2
  refine r_icge (q := 10) (t := 31) DM_X7_howManyRows_7 rfl (by decide) ⟨⟨i1, (by decide)⟩, fun cc => ?_, fun cc => ?_⟩
  · replace h := h.1 cc
    refine r_iloadn (q := 32) DM_X7_howManyRows_31 rfl rfl ?_
    exact r_ret (v := some (.inl x1)) ⟨DM_X7_howManyRows_32, Or.inl rfl⟩ h
  · replace h := h.2 cc
    refine r_aloadn (q := 11) DM_X7_howManyRows_10 rfl rfl ?_
    refine r_getR (q := 14) (r := 1) DM_X7_howManyRows_11 rfl fRX7_11 sh_0 rfl ?_
    refine r_iloadn (q := 15) DM_X7_howManyRows_14 rfl rfl ?_
    refine v_aaR (q := 16) DM_X7_howManyRows_15 rfl ⟨h.1, fun w2 => ?_⟩
    replace h := h.2 w2
    have i3 := h.1
    replace h := h.2
    refine r_callVi [] (q := 19) DM_X7_howManyRows_16 rfl kM_X6_isMissing lRX7_81 (ro0 w2) rfl rfl (by decide) (Nat.le_of_ble_eq_true rfl) rfl (k_X6_isMissing w2 i3 ⟨_, rfl, ?_⟩)
    refine r_bine (q := 22) (t := 25) DM_X7_howManyRows_19 rfl (by decide) ⟨fun cc => ?_, fun cc => ?_⟩
    · replace h := h.1 cc
      refine v_iinc (q := 28) (ls' := [some (.inr 0), some (.inl x1), some (.inl (x2 + 1))]) DM_X7_howManyRows_25 rfl rfl (by decide) rfl ?_
      refine r_goto (q := 4) DM_X7_howManyRows_28 (by decide) ?_
      exact h
    · replace h := h.2 cc
      refine v_iinc (q := 25) (ls' := [some (.inr 0), some (.inl (x1 + 1)), some (.inl x2)]) DM_X7_howManyRows_22 rfl rfl (by decide) rfl ?_
      refine v_iinc (q := 28) (ls' := [some (.inr 0), some (.inl (x1 + 1)), some (.inl (x2 + 1))]) DM_X7_howManyRows_25 rfl rfl (by decide) rfl ?_
      refine r_goto (q := 4) DM_X7_howManyRows_28 (by decide) ?_
      exact h

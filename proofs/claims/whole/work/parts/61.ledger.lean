/-! Pairs: the ledger. -/
set_option maxRecDepth 20000 in
theorem s_X7_areAllPeople {E : Ex} {μ : Mem} {Q : Option Vl → Mem → Prop} {x2 x3 : Int} {r : Nat} (hr : roS r) (h : Gg E 2 M_X7_areAllPeople 3 [some (.inr 0), some (.inr r), some (.inl x2), some (.inl x3), some (.inl 0)] [] μ Q) : Cl E 2 M_X7_areAllPeople [.inr 0, .inr r, .inl x2, .inl x3] μ Q := by
  show Gg E 2 M_X7_areAllPeople 0 [some (.inr 0), some (.inr r), some (.inl x2), some (.inl x3), none] [] μ Q
  refine r_iconst (q := 1) (n := 0) DM_X7_areAllPeople_0 rfl ?_
  refine v_istore (q := 3) (ls' := [some (.inr 0), some (.inr r), some (.inl x2), some (.inl x3), some (.inl 0)]) DM_X7_areAllPeople_1 rfl (by decide) rfl ?_
  exact h
set_option maxRecDepth 20000 in
theorem s_X7_areAllPeople_3 {E : Ex} {μ : Mem} {Q : Option Vl → Mem → Prop} {x2 x3 x4 : Int} {r : Nat} (hr : roS r) (h : inR x4 ∧ inR x3 ∧ (x4 ≥ x3 → Q (some (.inl (bi true))) μ) ∧ (¬ x4 ≥ x3 → (0 ≤ (x2 + x4) ∧ (x2 + x4) < 40) ∧ inR (μ (r + 1) (x2 + x4)) ∧ inR (μ 4 1) ∧ ((0 ≤ (μ (r + 1) (x2 + x4)) ∧ (μ (r + 1) (x2 + x4)) < μ 4 1) → Gg E 2 M_X7_areAllPeople 3 [some (.inr 0), some (.inr r), some (.inl x2), some (.inl x3), some (.inl (x4 + 1))] [] μ Q) ∧ (¬ (0 ≤ (μ (r + 1) (x2 + x4)) ∧ (μ (r + 1) (x2 + x4)) < μ 4 1) → Q (some (.inl (bi false))) μ))) : Gg E 2 M_X7_areAllPeople 3 [some (.inr 0), some (.inr r), some (.inl x2), some (.inl x3), some (.inl x4)] [] μ Q := by
  refine r_iload (q := 5) DM_X7_areAllPeople_3 rfl rfl ?_
  refine r_iloadn (q := 6) DM_X7_areAllPeople_5 rfl rfl ?_
  have i1 := h.1
  replace h := h.2
  have i2 := h.1
  replace h := h.2
  refine r_icge (q := 9) (t := 33) DM_X7_areAllPeople_6 rfl (by decide) ⟨⟨i1, i2⟩, fun cc => ?_, fun cc => ?_⟩
  · replace h := h.1 cc
    refine r_iconst (q := 34) (n := 1) DM_X7_areAllPeople_33 rfl ?_
    exact r_ret (v := some (.inl 1)) ⟨DM_X7_areAllPeople_34, Or.inr ⟨rfl, Or.inr rfl⟩⟩ h
  · replace h := h.2 cc
    refine r_aloadn (q := 10) DM_X7_areAllPeople_9 rfl rfl ?_
    refine r_aloadn (q := 11) DM_X7_areAllPeople_10 rfl rfl ?_
    refine r_getR (q := 14) (r := r + 1) DM_X7_areAllPeople_11 rfl fRX7_89 (ro0 hr) rfl ?_
    refine r_iloadn (q := 15) DM_X7_areAllPeople_14 rfl rfl ?_
    refine r_iload (q := 17) DM_X7_areAllPeople_15 rfl rfl ?_
    refine r_iadd (q := 18) DM_X7_areAllPeople_17 rfl ?_
    refine r_iald (q := 19) DM_X7_areAllPeople_18 rfl (ro1 hr) (by decide) ⟨h.1, ?_⟩
    have i3 := h.1
    replace h := h.2
    have i4 := h.1
    replace h := h.2
    have i5 := h.1
    replace h := h.2
    refine r_callVi [.inl (μ (r + 1) (x2 + x4))] (q := 22) DM_X7_areAllPeople_19 rfl kM_X7_isPerson lRX7_187 sh_0 rfl rfl (by decide) (Nat.le_of_ble_eq_true rfl) rfl (k_X7_isPerson i4 i5 ⟨_, rfl, ?_⟩)
    refine r_bine (q := 25) (t := 27) DM_X7_areAllPeople_22 rfl (by decide) ⟨fun cc => ?_, fun cc => ?_⟩
    · replace h := h.1 cc
      refine v_iinc (q := 30) (ls' := [some (.inr 0), some (.inr r), some (.inl x2), some (.inl x3), some (.inl (x4 + 1))]) DM_X7_areAllPeople_27 rfl rfl (by decide) rfl ?_
      refine r_goto (q := 3) DM_X7_areAllPeople_30 (by decide) ?_
      exact h
    · replace h := h.2 cc
      refine r_iconst (q := 26) (n := 0) DM_X7_areAllPeople_25 rfl ?_
      exact r_ret (v := some (.inl 0)) ⟨DM_X7_areAllPeople_26, Or.inr ⟨rfl, Or.inl rfl⟩⟩ h
set_option maxRecDepth 20000 in
theorem s_X7_areSeatedNext {E : Ex} {μ : Mem} {Q : Option Vl → Mem → Prop} {x2 x3 x4 : Int} {r : Nat} (hr : roS r) (h : (14 + 10 ≤ 4 ∨ 4 + 10 ≤ 14) ∧ (μ 4 0 = 0 ∨ μ 4 0 = 1) ∧ ∀ μ3 : Mem, chC μ μ3 14 (tkC (cv μ 14) (cv μ 4)) → (RgC μ3 14) ∧ (RoOk E) ∧ (VC (cv μ3 14)) ∧ (0 ≤ ((μ3 4 4) + 1) ∧ ((μ3 4 4) + 1) ≤ 900000) ∧ ∀ μ8 : Mem, chC μ3 μ8 14 (cSeats (cv μ3 14) ((μ3 4 4) + 1) x4) → inR (μ8 14 15) ∧ inR x3 ∧ ((μ8 14 15) = x3 → Gg E 5 M_X7_areSeatedNext 45 [some (.inr 0), some (.inr r), some (.inl x2), some (.inl x3), some (.inl x4), some (.inl 0)] [] μ8 Q) ∧ (¬ (μ8 14 15) = x3 → Q (some (.inl (bi false))) μ8)) : Cl E 5 M_X7_areSeatedNext [.inr 0, .inr r, .inl x2, .inl x3, .inl x4] μ Q := by
  show Gg E 5 M_X7_areSeatedNext 0 [some (.inr 0), some (.inr r), some (.inl x2), some (.inl x3), some (.inl x4), none] [] μ Q
  refine r_aloadn (q := 1) DM_X7_areSeatedNext_0 rfl rfl ?_
  refine r_getR (q := 4) (r := 14) DM_X7_areSeatedNext_1 rfl fRX7_29 sh_0 rfl ?_
  refine r_aloadn (q := 5) DM_X7_areSeatedNext_4 rfl rfl ?_
  refine r_getR (q := 8) (r := 4) DM_X7_areSeatedNext_5 rfl fRX7_25 sh_0 rfl ?_
  have i1 := h.1
  replace h := h.2
  have i2 := h.1
  replace h := h.2
  refine r_callVv [.inr 4] (q := 11) DM_X7_areSeatedNext_8 rfl kM_X2_takeFrom lRX7_130 (co0 cK_14) rfl rfl (by decide) (Nat.le_of_ble_eq_true rfl) rfl (k_X2_takeFrom cK_14 cK_4 i1 i2 (fun μ3 e3 => ⟨rfl, ?_⟩))
  replace h := h μ3 e3
  refine r_aloadn (q := 12) DM_X7_areSeatedNext_11 rfl rfl ?_
  refine r_getR (q := 15) (r := 14) DM_X7_areSeatedNext_12 rfl fRX7_29 sh_0 rfl ?_
  refine r_aloadn (q := 16) DM_X7_areSeatedNext_15 rfl rfl ?_
  refine r_getR (q := 19) (r := 4) DM_X7_areSeatedNext_16 rfl fRX7_25 sh_0 rfl ?_
  refine v_getI (q := 22) (ji := 4) DM_X7_areSeatedNext_19 rfl fRX7_145 (co0 cK_4) rfl rfl ?_
  refine r_iconst (q := 23) (n := 1) DM_X7_areSeatedNext_22 rfl ?_
  refine r_iadd (q := 24) DM_X7_areSeatedNext_23 rfl ?_
  refine r_iload (q := 26) DM_X7_areSeatedNext_24 rfl rfl ?_
  have i4 := h.1
  replace h := h.2
  have i5 := h.1
  replace h := h.2
  have i6 := h.1
  replace h := h.2
  have i7 := h.1
  replace h := h.2
  refine r_callVv [.inl ((μ3 4 4) + 1), .inl x4] (q := 29) DM_X7_areSeatedNext_26 rfl kM_X2_seatTill lRX7_148 (co0 cK_14) rfl rfl (by decide) (Nat.le_of_ble_eq_true rfl) rfl (k_X2_seatTill cK_14 i4 i5 i6 i7 (fun μ8 e8 => ⟨rfl, ?_⟩))
  replace h := h μ8 e8
  refine r_aloadn (q := 30) DM_X7_areSeatedNext_29 rfl rfl ?_
  refine r_getR (q := 33) (r := 14) DM_X7_areSeatedNext_30 rfl fRX7_29 sh_0 rfl ?_
  refine v_getI (q := 36) (ji := 15) DM_X7_areSeatedNext_33 rfl fRX7_287 (co0 cK_14) rfl rfl ?_
  refine r_iloadn (q := 37) DM_X7_areSeatedNext_36 rfl rfl ?_
  have i9 := h.1
  replace h := h.2
  have i10 := h.1
  replace h := h.2
  refine r_iceq (q := 40) (t := 42) DM_X7_areSeatedNext_37 rfl (by decide) ⟨⟨i9, i10⟩, fun cc => ?_, fun cc => ?_⟩
  · replace h := h.1 cc
    refine r_iconst (q := 43) (n := 0) DM_X7_areSeatedNext_42 rfl ?_
    refine v_istore (q := 45) (ls' := [some (.inr 0), some (.inr r), some (.inl x2), some (.inl x3), some (.inl x4), some (.inl 0)]) DM_X7_areSeatedNext_43 rfl (by decide) rfl ?_
    exact h
  · replace h := h.2 cc
    refine r_iconst (q := 41) (n := 0) DM_X7_areSeatedNext_40 rfl ?_
    exact r_ret (v := some (.inl 0)) ⟨DM_X7_areSeatedNext_41, Or.inr ⟨rfl, Or.inl rfl⟩⟩ h
set_option maxRecDepth 20000 in
theorem s_X7_areSeatedNext_45 {E : Ex} {μ : Mem} {Q : Option Vl → Mem → Prop} {x2 x3 x4 x5 : Int} {r : Nat} (hr : roS r) (h : inR x5 ∧ inR x3 ∧ (x5 ≥ x3 → Q (some (.inl (bi true))) μ) ∧ (¬ x5 ≥ x3 → (0 ≤ x5 ∧ x5 < 6) ∧ (0 ≤ (x2 + x5) ∧ (x2 + x5) < 40) ∧ inR (μ (14 + 9) x5) ∧ inR (μ (r + 1) (x2 + x5)) ∧ ((μ (14 + 9) x5) = (μ (r + 1) (x2 + x5)) → Gg E 5 M_X7_areSeatedNext 45 [some (.inr 0), some (.inr r), some (.inl x2), some (.inl x3), some (.inl x4), some (.inl (x5 + 1))] [] μ Q) ∧ (¬ (μ (14 + 9) x5) = (μ (r + 1) (x2 + x5)) → Q (some (.inl (bi false))) μ))) : Gg E 5 M_X7_areSeatedNext 45 [some (.inr 0), some (.inr r), some (.inl x2), some (.inl x3), some (.inl x4), some (.inl x5)] [] μ Q := by
  refine r_iload (q := 47) DM_X7_areSeatedNext_45 rfl rfl ?_
  refine r_iloadn (q := 48) DM_X7_areSeatedNext_47 rfl rfl ?_
  have i1 := h.1
  replace h := h.2
  have i2 := h.1
  replace h := h.2
  refine r_icge (q := 51) (t := 81) DM_X7_areSeatedNext_48 rfl (by decide) ⟨⟨i1, i2⟩, fun cc => ?_, fun cc => ?_⟩
  · replace h := h.1 cc
    refine r_iconst (q := 82) (n := 1) DM_X7_areSeatedNext_81 rfl ?_
    exact r_ret (v := some (.inl 1)) ⟨DM_X7_areSeatedNext_82, Or.inr ⟨rfl, Or.inr rfl⟩⟩ h
  · replace h := h.2 cc
    refine r_aloadn (q := 52) DM_X7_areSeatedNext_51 rfl rfl ?_
    refine r_getR (q := 55) (r := 14) DM_X7_areSeatedNext_52 rfl fRX7_29 sh_0 rfl ?_
    refine r_getR (q := 58) (r := 14 + 9) DM_X7_areSeatedNext_55 rfl fRX7_290 (co0 cK_14) rfl ?_
    refine r_iload (q := 60) DM_X7_areSeatedNext_58 rfl rfl ?_
    refine r_iald (q := 61) DM_X7_areSeatedNext_60 rfl (co9 cK_14) (by decide) ⟨h.1, ?_⟩
    have i3 := h.1
    replace h := h.2
    refine r_aloadn (q := 62) DM_X7_areSeatedNext_61 rfl rfl ?_
    refine r_getR (q := 65) (r := r + 1) DM_X7_areSeatedNext_62 rfl fRX7_89 (ro0 hr) rfl ?_
    refine r_iloadn (q := 66) DM_X7_areSeatedNext_65 rfl rfl ?_
    refine r_iload (q := 68) DM_X7_areSeatedNext_66 rfl rfl ?_
    refine r_iadd (q := 69) DM_X7_areSeatedNext_68 rfl ?_
    refine r_iald (q := 70) DM_X7_areSeatedNext_69 rfl (ro1 hr) (by decide) ⟨h.1, ?_⟩
    have i4 := h.1
    replace h := h.2
    have i5 := h.1
    replace h := h.2
    have i6 := h.1
    replace h := h.2
    refine r_iceq (q := 73) (t := 75) DM_X7_areSeatedNext_70 rfl (by decide) ⟨⟨i5, i6⟩, fun cc => ?_, fun cc => ?_⟩
    · replace h := h.1 cc
      refine v_iinc (q := 78) (ls' := [some (.inr 0), some (.inr r), some (.inl x2), some (.inl x3), some (.inl x4), some (.inl (x5 + 1))]) DM_X7_areSeatedNext_75 rfl rfl (by decide) rfl ?_
      refine r_goto (q := 45) DM_X7_areSeatedNext_78 (by decide) ?_
      exact h
    · replace h := h.2 cc
      refine r_iconst (q := 74) (n := 0) DM_X7_areSeatedNext_73 rfl ?_
      exact r_ret (v := some (.inl 0)) ⟨DM_X7_areSeatedNext_74, Or.inr ⟨rfl, Or.inl rfl⟩⟩ h
set_option maxRecDepth 20000 in
theorem s_X7_ledger {E : Ex} {μ : Mem} {Q : Option Vl → Mem → Prop} {x1 x2 x3 : Int}  (ix1 : inR x1) (ix2 : inR x2) (ix3 : inR x3) (h : inR (μ 4 0) ∧ ((μ 4 0) ≠ 0 → (¬ (0 ≤ x1 ∧ x1 < 8) → Q (some (.inl (-1000001))) μ) ∧ ((0 ≤ x1 ∧ x1 < 8) → ((0 ≤ x3 ∧ x3 < 7) → (0 ≤ x1 ∧ x1 < 8) ∧ (roS (rw x1) → inR (μ (rw x1) 2) ∧ (¬ (μ (rw x1) 2 = -1) → (0 ≤ μ (rw x1) 2 ∧ μ (rw x1) 2 ≤ 40) ∧ ((0 ≤ x3 ∧ 0 ≤ x2 ∧ x2 + x3 ≤ μ (rw x1) 2) → Cl E 2 M_X7_areAllPeople [.inr 0, .inr (rw x1), .inl x2, .inl x3] μ (fun vv μ5 => ∃ v6, vv = some (.inl (bi v6)) ∧ (v6 = true → Gg E 6 M_X7_ledger 92 [some (.inr 0), some (.inl x1), some (.inl x2), some (.inl x3), some (.inr (rw x1)), some (.inl 0), some (.inl 0)] [] μ5 Q) ∧ (v6 = false → Q (some (.inl (-1000001))) μ5))) ∧ (¬ (0 ≤ x3 ∧ 0 ≤ x2 ∧ x2 + x3 ≤ μ (rw x1) 2) → ∀ μ7 : Mem, μ7 = up μ 0 10 2 → Q (some (.inl (-1000010 - 2))) μ7)) ∧ ((μ (rw x1) 2 = -1) → ∀ μ8 : Mem, μ8 = up μ 0 10 1 → Q (some (.inl (-1000010 - 1))) μ8))) ∧ (¬ (0 ≤ x3 ∧ x3 < 7) → Q (some (.inl (-1000001))) μ))) ∧ ((μ 4 0) = 0 → Q (some (.inl (-1000002))) μ)) : Cl E 6 M_X7_ledger [.inr 0, .inl x1, .inl x2, .inl x3] μ Q := by
  show Gg E 6 M_X7_ledger 0 [some (.inr 0), some (.inl x1), some (.inl x2), some (.inl x3), none, none, none] [] μ Q
  refine r_aloadn (q := 1) DM_X7_ledger_0 rfl rfl ?_
  refine r_getR (q := 4) (r := 4) DM_X7_ledger_1 rfl fRX7_25 sh_0 rfl ?_
  refine v_getI (q := 7) (ji := 0) DM_X7_ledger_4 rfl fRX7_140 (co0 cK_4) rfl rfl ?_
  have i1 := h.1
  replace h := h.2
  refine r_ifne (q := 10) (t := 13) DM_X7_ledger_7 rfl (by decide) ⟨i1, fun cc => ?_, fun cc => ?_⟩
  · replace h := h.1 cc
    refine r_iloadn (q := 14) DM_X7_ledger_13 rfl rfl ?_
    refine r_bipush (q := 16) (n := 8) DM_X7_ledger_14 rfl (by decide) ?_
    refine r_callSi [.inl x1, .inl 8] (q := 19) DM_X7_ledger_16 rfl kM_X7_isIn lRX7_65 rfl (by decide) (Nat.le_of_ble_eq_true rfl) rfl (k_X7_isIn ix1 (by decide) ⟨_, rfl, ?_⟩)
    refine r_bieq (q := 22) (t := 31) DM_X7_ledger_19 rfl (by decide) ⟨fun cc => ?_, fun cc => ?_⟩
    · replace h := h.1 cc
      refine r_ldc (q := 33) (n := (-1000001)) DM_X7_ledger_31 rfl nRX7_69 ?_
      exact r_ret (v := some (.inl (-1000001))) ⟨DM_X7_ledger_33, Or.inl rfl⟩ h
    · replace h := h.2 cc
      refine r_iloadn (q := 23) DM_X7_ledger_22 rfl rfl ?_
      refine r_bipush (q := 25) (n := 7) DM_X7_ledger_23 rfl (by decide) ?_
      refine r_callSi [.inl x3, .inl 7] (q := 28) DM_X7_ledger_25 rfl kM_X7_isIn lRX7_65 rfl (by decide) (Nat.le_of_ble_eq_true rfl) rfl (k_X7_isIn ix3 (by decide) ⟨_, rfl, ?_⟩)
      refine r_bine (q := 31) (t := 34) DM_X7_ledger_28 rfl (by decide) ⟨fun cc => ?_, fun cc => ?_⟩
      · replace h := h.1 cc
        refine r_aloadn (q := 35) DM_X7_ledger_34 rfl rfl ?_
        refine r_getR (q := 38) (r := 1) DM_X7_ledger_35 rfl fRX7_11 sh_0 rfl ?_
        refine r_iloadn (q := 39) DM_X7_ledger_38 rfl rfl ?_
        refine v_aaR (q := 40) DM_X7_ledger_39 rfl ⟨h.1, fun w2 => ?_⟩
        replace h := h.2 w2
        refine v_astore (q := 42) (ls' := [some (.inr 0), some (.inl x1), some (.inl x2), some (.inl x3), some (.inr (rw x1)), none, none]) DM_X7_ledger_40 rfl (by decide) rfl ?_
        refine r_aload (q := 44) DM_X7_ledger_42 rfl rfl ?_
        have i3 := h.1
        replace h := h.2
        refine r_callVi [] (q := 47) DM_X7_ledger_44 rfl kM_X6_isMissing lRX7_81 (ro0 w2) rfl rfl (by decide) (Nat.le_of_ble_eq_true rfl) rfl (k_X6_isMissing w2 i3 ⟨_, rfl, ?_⟩)
        refine r_bieq (q := 50) (t := 56) DM_X7_ledger_47 rfl (by decide) ⟨fun cc => ?_, fun cc => ?_⟩
        · replace h := h.1 cc
          refine r_aload (q := 58) DM_X7_ledger_56 rfl rfl ?_
          refine r_iloadn (q := 59) DM_X7_ledger_58 rfl rfl ?_
          refine r_iloadn (q := 60) DM_X7_ledger_59 rfl rfl ?_
          have i4 := h.1
          replace h := h.2
          refine r_callVi [.inl x2, .inl x3] (q := 63) DM_X7_ledger_60 rfl kM_X6_hasRange lRX7_99 (ro0 w2) rfl rfl (by decide) (Nat.le_of_ble_eq_true rfl) rfl (k_X6_hasRange w2 ix2 ix3 i4 ⟨_, rfl, ?_⟩)
          refine r_bine (q := 66) (t := 72) DM_X7_ledger_63 rfl (by decide) ⟨fun cc => ?_, fun cc => ?_⟩
          · replace h := h.1 cc
            refine r_aloadn (q := 73) DM_X7_ledger_72 rfl rfl ?_
            refine r_aload (q := 75) DM_X7_ledger_73 rfl rfl ?_
            refine r_iloadn (q := 76) DM_X7_ledger_75 rfl rfl ?_
            refine r_iloadn (q := 77) DM_X7_ledger_76 rfl rfl ?_
            refine r_callVi [.inr (rw x1), .inl x2, .inl x3] (q := 80) DM_X7_ledger_77 rfl kM_X7_areAllPeople lRX7_250 sh_0 rfl rfl (by decide) (Nat.le_of_ble_eq_true rfl) rfl (Cl.imp h (fun vv μ5 h => ?_))
            obtain ⟨v6, hv, h⟩ := h
            refine ⟨_, hv, ?_⟩
            refine r_bbne (q := 83) (t := 86) DM_X7_ledger_80 rfl (by decide) ⟨fun cc => ?_, fun cc => ?_⟩
            · replace h := h.1 cc
              refine r_iconst (q := 87) (n := 0) DM_X7_ledger_86 rfl ?_
              refine v_istore (q := 89) (ls' := [some (.inr 0), some (.inl x1), some (.inl x2), some (.inl x3), some (.inr (rw x1)), some (.inl 0), none]) DM_X7_ledger_87 rfl (by decide) rfl ?_
              refine r_iconst (q := 90) (n := 0) DM_X7_ledger_89 rfl ?_
              refine v_istore (q := 92) (ls' := [some (.inr 0), some (.inl x1), some (.inl x2), some (.inl x3), some (.inr (rw x1)), some (.inl 0), some (.inl 0)]) DM_X7_ledger_90 rfl (by decide) rfl ?_
              exact h
            · replace h := h.2 cc
              refine r_ldc (q := 85) (n := (-1000001)) DM_X7_ledger_83 rfl nRX7_69 ?_
              exact r_ret (v := some (.inl (-1000001))) ⟨DM_X7_ledger_85, Or.inl rfl⟩ h
          · replace h := h.2 cc
            refine r_aloadn (q := 67) DM_X7_ledger_66 rfl rfl ?_
            refine r_iconst (q := 68) (n := 2) DM_X7_ledger_67 rfl ?_
            refine r_callVi [.inl 2] (q := 71) DM_X7_ledger_68 rfl kM_X7_found lRX7_70 sh_0 rfl rfl (by decide) (Nat.le_of_ble_eq_true rfl) rfl (k_X7_found  (fun μ7 e7 => ⟨_, rfl, ?_⟩))
            replace h := h μ7 e7
            exact r_ret (v := some (.inl (-1000010 - 2))) ⟨DM_X7_ledger_71, Or.inl rfl⟩ h
        · replace h := h.2 cc
          refine r_aloadn (q := 51) DM_X7_ledger_50 rfl rfl ?_
          refine r_iconst (q := 52) (n := 1) DM_X7_ledger_51 rfl ?_
          refine r_callVi [.inl 1] (q := 55) DM_X7_ledger_52 rfl kM_X7_found lRX7_70 sh_0 rfl rfl (by decide) (Nat.le_of_ble_eq_true rfl) rfl (k_X7_found  (fun μ8 e8 => ⟨_, rfl, ?_⟩))
          replace h := h μ8 e8
          exact r_ret (v := some (.inl (-1000010 - 1))) ⟨DM_X7_ledger_55, Or.inl rfl⟩ h
      · replace h := h.2 cc
        refine r_ldc (q := 33) (n := (-1000001)) DM_X7_ledger_31 rfl nRX7_69 ?_
        exact r_ret (v := some (.inl (-1000001))) ⟨DM_X7_ledger_33, Or.inl rfl⟩ h
  · replace h := h.2 cc
    refine r_ldc (q := 12) (n := (-1000002)) DM_X7_ledger_10 rfl nRX7_144 ?_
    exact r_ret (v := some (.inl (-1000002))) ⟨DM_X7_ledger_12, Or.inl rfl⟩ h
set_option maxRecDepth 20000 in
theorem s_X7_ledger_92 {E : Ex} {μ : Mem} {Q : Option Vl → Mem → Prop} {x1 x2 x3 x5 x6 : Int}  {r4 : Nat} (hr4 : roS r4) (h : inR x6 ∧ (x6 ≥ 8 → ∀ μ2 : Mem, μ2 = up μ 0 10 0 → Q (some (.inl x5)) μ2) ∧ (¬ x6 ≥ 8 → Cl E 5 M_X7_areSeatedNext [.inr 0, .inr r4, .inl x2, .inl x3, .inl x6] μ (fun vv μ3 => ∃ v4, vv = some (.inl (bi v4)) ∧ (v4 = false → Gg E 6 M_X7_ledger 92 [some (.inr 0), some (.inl x1), some (.inl x2), some (.inl x3), some (.inr r4), some (.inl x5), some (.inl (x6 + 1))] [] μ3 Q) ∧ (v4 = true → Gg E 6 M_X7_ledger 92 [some (.inr 0), some (.inl x1), some (.inl x2), some (.inl x3), some (.inr r4), some (.inl (jor x5 (jshl 1 x6))), some (.inl (x6 + 1))] [] μ3 Q)))) : Gg E 6 M_X7_ledger 92 [some (.inr 0), some (.inl x1), some (.inl x2), some (.inl x3), some (.inr r4), some (.inl x5), some (.inl x6)] [] μ Q := by
  refine r_iload (q := 94) DM_X7_ledger_92 rfl rfl ?_
  refine r_bipush (q := 96) (n := 8) DM_X7_ledger_94 rfl (by decide) ?_
  have i1 := h.1
  replace h := h.2
  refine r_icge (q := 99) (t := 127) DM_X7_ledger_96 rfl (by decide) ⟨⟨i1, (by decide)⟩, fun cc => ?_, fun cc => ?_⟩
  · replace h := h.1 cc
    refine r_aloadn (q := 128) DM_X7_ledger_127 rfl rfl ?_
    refine r_iload (q := 130) DM_X7_ledger_128 rfl rfl ?_
    refine r_callVi [.inl x5] (q := 133) DM_X7_ledger_130 rfl kM_X7_unfound lRX7_78 sh_0 rfl rfl (by decide) (Nat.le_of_ble_eq_true rfl) rfl (k_X7_unfound  (fun μ2 e2 => ⟨_, rfl, ?_⟩))
    replace h := h μ2 e2
    exact r_ret (v := some (.inl x5)) ⟨DM_X7_ledger_133, Or.inl rfl⟩ h
  · replace h := h.2 cc
    refine r_aloadn (q := 100) DM_X7_ledger_99 rfl rfl ?_
    refine r_aload (q := 102) DM_X7_ledger_100 rfl rfl ?_
    refine r_iloadn (q := 103) DM_X7_ledger_102 rfl rfl ?_
    refine r_iloadn (q := 104) DM_X7_ledger_103 rfl rfl ?_
    refine r_iload (q := 106) DM_X7_ledger_104 rfl rfl ?_
    refine r_callVi [.inr r4, .inl x2, .inl x3, .inl x6] (q := 109) DM_X7_ledger_106 rfl kM_X7_areSeatedNext lRX7_254 sh_0 rfl rfl (by decide) (Nat.le_of_ble_eq_true rfl) rfl (Cl.imp h (fun vv μ3 h => ?_))
    obtain ⟨v4, hv, h⟩ := h
    refine ⟨_, hv, ?_⟩
    refine r_bbeq (q := 112) (t := 121) DM_X7_ledger_109 rfl (by decide) ⟨fun cc => ?_, fun cc => ?_⟩
    · replace h := h.1 cc
      refine v_iinc (q := 124) (ls' := [some (.inr 0), some (.inl x1), some (.inl x2), some (.inl x3), some (.inr r4), some (.inl x5), some (.inl (x6 + 1))]) DM_X7_ledger_121 rfl rfl (by decide) rfl ?_
      refine r_goto (q := 92) DM_X7_ledger_124 (by decide) ?_
      exact h
    · replace h := h.2 cc
      refine r_iload (q := 114) DM_X7_ledger_112 rfl rfl ?_
      refine r_iconst (q := 115) (n := 1) DM_X7_ledger_114 rfl ?_
      refine r_iload (q := 117) DM_X7_ledger_115 rfl rfl ?_
      refine r_ishl (q := 118) DM_X7_ledger_117 rfl ?_
      refine r_ior (q := 119) DM_X7_ledger_118 rfl ?_
      refine v_istore (q := 121) (ls' := [some (.inr 0), some (.inl x1), some (.inl x2), some (.inl x3), some (.inr r4), some (.inl (jor x5 (jshl 1 x6))), some (.inl x6)]) DM_X7_ledger_119 rfl (by decide) rfl ?_
      refine v_iinc (q := 124) (ls' := [some (.inr 0), some (.inl x1), some (.inl x2), some (.inl x3), some (.inr r4), some (.inl (jor x5 (jshl 1 x6))), some (.inl (x6 + 1))]) DM_X7_ledger_121 rfl rfl (by decide) rfl ?_
      refine r_goto (q := 92) DM_X7_ledger_124 (by decide) ?_
      exact h
set_option maxRecDepth 20000 in
theorem s_X8_ledger {E : Ex} {μ : Mem} {Q : Option Vl → Mem → Prop} {x1 x2 x3 : Int}  (ix1 : inR x1) (ix2 : inR x2) (ix3 : inR x3) (h : inR (μ 89 0) ∧ ((0 < μ 89 0) → (¬ (0 ≤ x1 ∧ x1 ≤ 7) → Q (some (.inl (-1000001))) μ) ∧ ((0 ≤ x1 ∧ x1 ≤ 7) → ((0 ≤ x3 ∧ x3 ≤ 6) → (0 ≤ x1 ∧ x1 < 8) ∧ inR (μ 84 x1) ∧ (¬ (μ 84 x1 = -1000000) → Cl E 0 M_X8_isPart [.inr 83, .inl x1, .inl x2, .inl x3] μ (fun vv μ4 => ∃ v5, vv = some (.inl (bi v5)) ∧ (v5 = true → Gg E 5 M_X8_ledger 63 [some (.inr 83), some (.inl x1), some (.inl x2), some (.inl x3), some (.inl 0), none, none, none] [] μ4 Q) ∧ (v5 = false → ∀ μ6 : Mem, μ6 = up μ4 83 4 2 → Q (some (.inl (-1000010 - 2))) μ6))) ∧ ((μ 84 x1 = -1000000) → ∀ μ7 : Mem, μ7 = up μ 83 4 1 → Q (some (.inl (-1000010 - 1))) μ7)) ∧ (¬ (0 ≤ x3 ∧ x3 ≤ 6) → Q (some (.inl (-1000001))) μ))) ∧ (¬ (0 < μ 89 0) → Q (some (.inl (-1000002))) μ)) : Cl E 5 M_X8_ledger [.inr 83, .inl x1, .inl x2, .inl x3] μ Q := by
  show Gg E 5 M_X8_ledger 0 [some (.inr 83), some (.inl x1), some (.inl x2), some (.inl x3), none, none, none, none] [] μ Q
  refine r_aloadn (q := 1) DM_X8_ledger_0 rfl rfl ?_
  have i1 := h.1
  replace h := h.2
  refine r_callVi [] (q := 4) DM_X8_ledger_1 rfl kM_X8_isCourt lRX8_200 sh_83 rfl rfl (by decide) (Nat.le_of_ble_eq_true rfl) rfl (k_X8_isCourt i1 ⟨_, rfl, ?_⟩)
  refine r_bine (q := 7) (t := 10) DM_X8_ledger_4 rfl (by decide) ⟨fun cc => ?_, fun cc => ?_⟩
  · replace h := h.1 cc
    refine r_iloadn (q := 11) DM_X8_ledger_10 rfl rfl ?_
    refine r_callSi [.inl x1] (q := 14) DM_X8_ledger_11 rfl kM_X8_isRow lRX8_69 rfl (by decide) (Nat.le_of_ble_eq_true rfl) rfl (k_X8_isRow ix1 ⟨_, rfl, ?_⟩)
    refine r_bieq (q := 17) (t := 27) DM_X8_ledger_14 rfl (by decide) ⟨fun cc => ?_, fun cc => ?_⟩
    · replace h := h.1 cc
      refine r_ldc (q := 29) (n := (-1000001)) DM_X8_ledger_27 rfl nRX8_73 ?_
      exact r_ret (v := some (.inl (-1000001))) ⟨DM_X8_ledger_29, Or.inl rfl⟩ h
    · replace h := h.2 cc
      refine r_iloadn (q := 18) DM_X8_ledger_17 rfl rfl ?_
      refine r_iconst (q := 19) (n := 0) DM_X8_ledger_18 rfl ?_
      refine r_bipush (q := 21) (n := 6) DM_X8_ledger_19 rfl (by decide) ?_
      refine r_callSi [.inl x3, .inl 0, .inl 6] (q := 24) DM_X8_ledger_21 rfl kM_X8_in lRX8_65 rfl (by decide) (Nat.le_of_ble_eq_true rfl) rfl (k_X8_in ix3 (by decide) (by decide) ⟨_, rfl, ?_⟩)
      refine r_bine (q := 27) (t := 30) DM_X8_ledger_24 rfl (by decide) ⟨fun cc => ?_, fun cc => ?_⟩
      · replace h := h.1 cc
        refine r_aloadn (q := 31) DM_X8_ledger_30 rfl rfl ?_
        refine r_iloadn (q := 32) DM_X8_ledger_31 rfl rfl ?_
        have i2 := h.1
        replace h := h.2
        have i3 := h.1
        replace h := h.2
        refine r_callVi [.inl x1] (q := 35) DM_X8_ledger_32 rfl kM_X8_isMissing lRX8_81 sh_83 rfl rfl (by decide) (Nat.le_of_ble_eq_true rfl) rfl (k_X8_isMissing i2 i3 ⟨_, rfl, ?_⟩)
        refine r_bieq (q := 38) (t := 44) DM_X8_ledger_35 rfl (by decide) ⟨fun cc => ?_, fun cc => ?_⟩
        · replace h := h.1 cc
          refine r_aloadn (q := 45) DM_X8_ledger_44 rfl rfl ?_
          refine r_iloadn (q := 46) DM_X8_ledger_45 rfl rfl ?_
          refine r_iloadn (q := 47) DM_X8_ledger_46 rfl rfl ?_
          refine r_iloadn (q := 48) DM_X8_ledger_47 rfl rfl ?_
          refine r_callVi [.inl x1, .inl x2, .inl x3] (q := 51) DM_X8_ledger_48 rfl kM_X8_isPart lRX8_88 sh_83 rfl rfl (by decide) (Nat.le_of_ble_eq_true rfl) rfl (Cl.imp h (fun vv μ4 h => ?_))
          obtain ⟨v5, hv, h⟩ := h
          refine ⟨_, hv, ?_⟩
          refine r_bbne (q := 54) (t := 60) DM_X8_ledger_51 rfl (by decide) ⟨fun cc => ?_, fun cc => ?_⟩
          · replace h := h.1 cc
            refine r_iconst (q := 61) (n := 0) DM_X8_ledger_60 rfl ?_
            refine v_istore (q := 63) (ls' := [some (.inr 83), some (.inl x1), some (.inl x2), some (.inl x3), some (.inl 0), none, none, none]) DM_X8_ledger_61 rfl (by decide) rfl ?_
            exact h
          · replace h := h.2 cc
            refine r_aloadn (q := 55) DM_X8_ledger_54 rfl rfl ?_
            refine r_iconst (q := 56) (n := 2) DM_X8_ledger_55 rfl ?_
            refine r_callVi [.inl 2] (q := 59) DM_X8_ledger_56 rfl kM_X8_found lRX8_74 sh_83 rfl rfl (by decide) (Nat.le_of_ble_eq_true rfl) rfl (k_X8_found  (fun μ6 e6 => ⟨_, rfl, ?_⟩))
            replace h := h μ6 e6
            exact r_ret (v := some (.inl (-1000010 - 2))) ⟨DM_X8_ledger_59, Or.inl rfl⟩ h
        · replace h := h.2 cc
          refine r_aloadn (q := 39) DM_X8_ledger_38 rfl rfl ?_
          refine r_iconst (q := 40) (n := 1) DM_X8_ledger_39 rfl ?_
          refine r_callVi [.inl 1] (q := 43) DM_X8_ledger_40 rfl kM_X8_found lRX8_74 sh_83 rfl rfl (by decide) (Nat.le_of_ble_eq_true rfl) rfl (k_X8_found  (fun μ7 e7 => ⟨_, rfl, ?_⟩))
          replace h := h μ7 e7
          exact r_ret (v := some (.inl (-1000010 - 1))) ⟨DM_X8_ledger_43, Or.inl rfl⟩ h
      · replace h := h.2 cc
        refine r_ldc (q := 29) (n := (-1000001)) DM_X8_ledger_27 rfl nRX8_73 ?_
        exact r_ret (v := some (.inl (-1000001))) ⟨DM_X8_ledger_29, Or.inl rfl⟩ h
  · replace h := h.2 cc
    refine r_ldc (q := 9) (n := (-1000002)) DM_X8_ledger_7 rfl nRX8_203 ?_
    exact r_ret (v := some (.inl (-1000002))) ⟨DM_X8_ledger_9, Or.inl rfl⟩ h
set_option maxRecDepth 20000 in
theorem s_X8_ledger_63 {E : Ex} {μ : Mem} {Q : Option Vl → Mem → Prop} {x1 x2 x3 x4 : Int}  (h : inR x4 ∧ inR x3 ∧ (x4 ≥ x3 → Gg E 5 M_X8_ledger 105 [some (.inr 83), some (.inl x1), some (.inl x2), some (.inl x3), some (.inl 0), some (.inl 0), none, none] [] μ Q) ∧ (¬ x4 ≥ x3 → (0 ≤ (((40 * x1) + x2) + x4) ∧ (((40 * x1) + x2) + x4) < 320) ∧ inR (μ 86 (((40 * x1) + x2) + x4)) ∧ inR (μ 89 2 - 1) ∧ ((0 ≤ (μ 86 (((40 * x1) + x2) + x4)) ∧ (μ 86 (((40 * x1) + x2) + x4)) ≤ μ 89 2 - 1) → Gg E 5 M_X8_ledger 63 [some (.inr 83), some (.inl x1), some (.inl x2), some (.inl x3), some (.inl (x4 + 1)), none, none, none] [] μ Q) ∧ (¬ (0 ≤ (μ 86 (((40 * x1) + x2) + x4)) ∧ (μ 86 (((40 * x1) + x2) + x4)) ≤ μ 89 2 - 1) → Q (some (.inl (-1000001))) μ))) : Gg E 5 M_X8_ledger 63 [some (.inr 83), some (.inl x1), some (.inl x2), some (.inl x3), some (.inl x4), none, none, none] [] μ Q := by
  refine r_iload (q := 65) DM_X8_ledger_63 rfl rfl ?_
  refine r_iloadn (q := 66) DM_X8_ledger_65 rfl rfl ?_
  have i1 := h.1
  replace h := h.2
  have i2 := h.1
  replace h := h.2
  refine r_icge (q := 69) (t := 99) DM_X8_ledger_66 rfl (by decide) ⟨⟨i1, i2⟩, fun cc => ?_, fun cc => ?_⟩
  · replace h := h.1 cc
    refine r_iconst (q := 100) (n := 0) DM_X8_ledger_99 rfl ?_
    refine v_istore (q := 102) (ls' := [some (.inr 83), some (.inl x1), some (.inl x2), some (.inl x3), some (.inl 0), none, none, none]) DM_X8_ledger_100 rfl (by decide) rfl ?_
    refine r_iconst (q := 103) (n := 0) DM_X8_ledger_102 rfl ?_
    refine v_istore (q := 105) (ls' := [some (.inr 83), some (.inl x1), some (.inl x2), some (.inl x3), some (.inl 0), some (.inl 0), none, none]) DM_X8_ledger_103 rfl (by decide) rfl ?_
    exact h
  · replace h := h.2 cc
    refine r_aloadn (q := 70) DM_X8_ledger_69 rfl rfl ?_
    refine r_aloadn (q := 71) DM_X8_ledger_70 rfl rfl ?_
    refine r_getR (q := 74) (r := 86) DM_X8_ledger_71 rfl fRX8_16 sh_83 rfl ?_
    refine r_bipush (q := 76) (n := 40) DM_X8_ledger_74 rfl (by decide) ?_
    refine r_iloadn (q := 77) DM_X8_ledger_76 rfl rfl ?_
    refine r_imul (q := 78) DM_X8_ledger_77 rfl ?_
    refine r_iloadn (q := 79) DM_X8_ledger_78 rfl rfl ?_
    refine r_iadd (q := 80) DM_X8_ledger_79 rfl ?_
    refine r_iload (q := 82) DM_X8_ledger_80 rfl rfl ?_
    refine r_iadd (q := 83) DM_X8_ledger_82 rfl ?_
    refine r_iald (q := 84) DM_X8_ledger_83 rfl sh_86 (by decide) ⟨h.1, ?_⟩
    have i3 := h.1
    replace h := h.2
    have i4 := h.1
    replace h := h.2
    have i5 := h.1
    replace h := h.2
    refine r_callVi [.inl (μ 86 (((40 * x1) + x2) + x4))] (q := 87) DM_X8_ledger_84 rfl kM_X8_isPerson lRX8_210 sh_83 rfl rfl (by decide) (Nat.le_of_ble_eq_true rfl) rfl (k_X8_isPerson i4 i5 ⟨_, rfl, ?_⟩)
    refine r_bine (q := 90) (t := 93) DM_X8_ledger_87 rfl (by decide) ⟨fun cc => ?_, fun cc => ?_⟩
    · replace h := h.1 cc
      refine v_iinc (q := 96) (ls' := [some (.inr 83), some (.inl x1), some (.inl x2), some (.inl x3), some (.inl (x4 + 1)), none, none, none]) DM_X8_ledger_93 rfl rfl (by decide) rfl ?_
      refine r_goto (q := 63) DM_X8_ledger_96 (by decide) ?_
      exact h
    · replace h := h.2 cc
      refine r_ldc (q := 92) (n := (-1000001)) DM_X8_ledger_90 rfl nRX8_73 ?_
      exact r_ret (v := some (.inl (-1000001))) ⟨DM_X8_ledger_92, Or.inl rfl⟩ h
set_option maxRecDepth 20000 in
theorem s_X8_ledger_105 {E : Ex} {μ : Mem} {Q : Option Vl → Mem → Prop} {x1 x2 x3 x4 x5 : Int}  (h : inR x5 ∧ (x5 ≥ 8 → ∀ μ2 : Mem, μ2 = up μ 83 4 0 → Q (some (.inl x4)) μ2) ∧ (¬ x5 ≥ 8 → Cl E 0 M_X8_copies [.inr 89, .inl 0, .inr 91, .inl 0] μ (fun vv μ3 => vv = none ∧ Cl E 4 M_X8_passes [.inr 83, .inr 91, .inl x5] μ3 (fun vv μ5 => vv = none ∧ inR (μ5 83 23) ∧ inR x3 ∧ ((μ5 83 23) ≠ x3 → Gg E 5 M_X8_ledger 153 [some (.inr 83), some (.inl x1), some (.inl x2), some (.inl x3), some (.inl x4), some (.inl x5), some (.inl 0), some (.inl 0)] [] μ5 Q) ∧ ((μ5 83 23) = x3 → Gg E 5 M_X8_ledger 153 [some (.inr 83), some (.inl x1), some (.inl x2), some (.inl x3), some (.inl x4), some (.inl x5), some (.inl 1), some (.inl 0)] [] μ5 Q))))) : Gg E 5 M_X8_ledger 105 [some (.inr 83), some (.inl x1), some (.inl x2), some (.inl x3), some (.inl x4), some (.inl x5), none, none] [] μ Q := by
  refine r_iload (q := 107) DM_X8_ledger_105 rfl rfl ?_
  refine r_bipush (q := 109) (n := 8) DM_X8_ledger_107 rfl (by decide) ?_
  have i1 := h.1
  replace h := h.2
  refine r_icge (q := 112) (t := 225) DM_X8_ledger_109 rfl (by decide) ⟨⟨i1, (by decide)⟩, fun cc => ?_, fun cc => ?_⟩
  · replace h := h.1 cc
    refine r_aloadn (q := 226) DM_X8_ledger_225 rfl rfl ?_
    refine r_iload (q := 228) DM_X8_ledger_226 rfl rfl ?_
    refine r_callVi [.inl x4] (q := 231) DM_X8_ledger_228 rfl kM_X8_well lRX8_78 sh_83 rfl rfl (by decide) (Nat.le_of_ble_eq_true rfl) rfl (k_X8_well  (fun μ2 e2 => ⟨_, rfl, ?_⟩))
    replace h := h μ2 e2
    exact r_ret (v := some (.inl x4)) ⟨DM_X8_ledger_231, Or.inl rfl⟩ h
  · replace h := h.2 cc
    refine r_aloadn (q := 113) DM_X8_ledger_112 rfl rfl ?_
    refine r_getR (q := 116) (r := 89) DM_X8_ledger_113 rfl fRX8_25 sh_83 rfl ?_
    refine r_iconst (q := 117) (n := 0) DM_X8_ledger_116 rfl ?_
    refine r_aloadn (q := 118) DM_X8_ledger_117 rfl rfl ?_
    refine r_getR (q := 121) (r := 91) DM_X8_ledger_118 rfl fRX8_31 sh_83 rfl ?_
    refine r_iconst (q := 122) (n := 0) DM_X8_ledger_121 rfl ?_
    refine r_callSv [.inr 89, .inl 0, .inr 91, .inl 0] (q := 125) DM_X8_ledger_122 rfl kM_X8_copies lRX8_151 rfl (by decide) (Nat.le_of_ble_eq_true rfl) rfl (Cl.imp h (fun vv μ3 h => ?_))
    obtain ⟨hv, h⟩ := h
    refine ⟨hv, ?_⟩
    refine r_aloadn (q := 126) DM_X8_ledger_125 rfl rfl ?_
    refine r_aloadn (q := 127) DM_X8_ledger_126 rfl rfl ?_
    refine r_getR (q := 130) (r := 91) DM_X8_ledger_127 rfl fRX8_31 sh_83 rfl ?_
    refine r_iload (q := 132) DM_X8_ledger_130 rfl rfl ?_
    refine r_callVv [.inr 91, .inl x5] (q := 135) DM_X8_ledger_132 rfl kM_X8_passes lRX8_207 sh_83 rfl rfl (by decide) (Nat.le_of_ble_eq_true rfl) rfl (Cl.imp h (fun vv μ5 h => ?_))
    obtain ⟨hv, h⟩ := h
    refine ⟨hv, ?_⟩
    refine r_aloadn (q := 136) DM_X8_ledger_135 rfl rfl ?_
    refine v_getI (q := 139) (ji := 23) DM_X8_ledger_136 rfl fRX8_187 sh_83 rfl rfl ?_
    refine r_iloadn (q := 140) DM_X8_ledger_139 rfl rfl ?_
    have i7 := h.1
    replace h := h.2
    have i8 := h.1
    replace h := h.2
    refine r_icne (q := 143) (t := 147) DM_X8_ledger_140 rfl (by decide) ⟨⟨i7, i8⟩, fun cc => ?_, fun cc => ?_⟩
    · replace h := h.1 cc
      refine r_iconst (q := 148) (n := 0) DM_X8_ledger_147 rfl ?_
      refine v_istore (q := 150) (ls' := [some (.inr 83), some (.inl x1), some (.inl x2), some (.inl x3), some (.inl x4), some (.inl x5), some (.inl 0), none]) DM_X8_ledger_148 rfl (by decide) rfl ?_
      refine r_iconst (q := 151) (n := 0) DM_X8_ledger_150 rfl ?_
      refine v_istore (q := 153) (ls' := [some (.inr 83), some (.inl x1), some (.inl x2), some (.inl x3), some (.inl x4), some (.inl x5), some (.inl 0), some (.inl 0)]) DM_X8_ledger_151 rfl (by decide) rfl ?_
      exact h
    · replace h := h.2 cc
      refine r_iconst (q := 144) (n := 1) DM_X8_ledger_143 rfl ?_
      refine r_goto (q := 148) DM_X8_ledger_144 (by decide) ?_
      refine v_istore (q := 150) (ls' := [some (.inr 83), some (.inl x1), some (.inl x2), some (.inl x3), some (.inl x4), some (.inl x5), some (.inl 1), none]) DM_X8_ledger_148 rfl (by decide) rfl ?_
      refine r_iconst (q := 151) (n := 0) DM_X8_ledger_150 rfl ?_
      refine v_istore (q := 153) (ls' := [some (.inr 83), some (.inl x1), some (.inl x2), some (.inl x3), some (.inl x4), some (.inl x5), some (.inl 1), some (.inl 0)]) DM_X8_ledger_151 rfl (by decide) rfl ?_
      exact h
set_option maxRecDepth 20000 in
theorem s_X8_ledger_153 {E : Ex} {μ : Mem} {Q : Option Vl → Mem → Prop} {x1 x2 x3 x4 x5 x6 x7 : Int}  (h : inR x7 ∧ inR x3 ∧ (x7 ≥ x3 → inR x6 ∧ (x6 = 0 → Gg E 5 M_X8_ledger 105 [some (.inr 83), some (.inl x1), some (.inl x2), some (.inl x3), some (.inl (jor x4 0)), some (.inl (x5 + 1)), none, none] [] μ Q) ∧ (¬ x6 = 0 → Gg E 5 M_X8_ledger 105 [some (.inr 83), some (.inl x1), some (.inl x2), some (.inl x3), some (.inl (jor x4 (jshl 1 x5))), some (.inl (x5 + 1)), none, none] [] μ Q)) ∧ (¬ x7 ≥ x3 → inR x6 ∧ (x6 = 0 → (x6 = 0 → Gg E 5 M_X8_ledger 105 [some (.inr 83), some (.inl x1), some (.inl x2), some (.inl x3), some (.inl (jor x4 0)), some (.inl (x5 + 1)), none, none] [] μ Q) ∧ (¬ x6 = 0 → Gg E 5 M_X8_ledger 105 [some (.inr 83), some (.inl x1), some (.inl x2), some (.inl x3), some (.inl (jor x4 (jshl 1 x5))), some (.inl (x5 + 1)), none, none] [] μ Q)) ∧ (¬ x6 = 0 → (0 ≤ x7 ∧ x7 < 6) ∧ (0 ≤ (((40 * x1) + x2) + x7) ∧ (((40 * x1) + x2) + x7) < 320) ∧ inR (μ 96 x7) ∧ inR (μ 86 (((40 * x1) + x2) + x7)) ∧ ((μ 96 x7) ≠ (μ 86 (((40 * x1) + x2) + x7)) → Gg E 5 M_X8_ledger 153 [some (.inr 83), some (.inl x1), some (.inl x2), some (.inl x3), some (.inl x4), some (.inl x5), some (.inl 0), some (.inl (x7 + 1))] [] μ Q) ∧ ((μ 96 x7) = (μ 86 (((40 * x1) + x2) + x7)) → Gg E 5 M_X8_ledger 153 [some (.inr 83), some (.inl x1), some (.inl x2), some (.inl x3), some (.inl x4), some (.inl x5), some (.inl 1), some (.inl (x7 + 1))] [] μ Q)))) : Gg E 5 M_X8_ledger 153 [some (.inr 83), some (.inl x1), some (.inl x2), some (.inl x3), some (.inl x4), some (.inl x5), some (.inl x6), some (.inl x7)] [] μ Q := by
  refine r_iload (q := 155) DM_X8_ledger_153 rfl rfl ?_
  refine r_iloadn (q := 156) DM_X8_ledger_155 rfl rfl ?_
  have i1 := h.1
  replace h := h.2
  have i2 := h.1
  replace h := h.2
  refine r_icge (q := 159) (t := 201) DM_X8_ledger_156 rfl (by decide) ⟨⟨i1, i2⟩, fun cc => ?_, fun cc => ?_⟩
  · replace h := h.1 cc
    refine r_iload (q := 203) DM_X8_ledger_201 rfl rfl ?_
    refine r_iload (q := 205) DM_X8_ledger_203 rfl rfl ?_
    have i3 := h.1
    replace h := h.2
    refine r_ifeq (q := 208) (t := 215) DM_X8_ledger_205 rfl (by decide) ⟨i3, fun cc => ?_, fun cc => ?_⟩
    · replace h := h.1 cc
      refine r_iconst (q := 216) (n := 0) DM_X8_ledger_215 rfl ?_
      refine r_ior (q := 217) DM_X8_ledger_216 rfl ?_
      refine v_istore (q := 219) (ls' := [some (.inr 83), some (.inl x1), some (.inl x2), some (.inl x3), some (.inl (jor x4 0)), some (.inl x5), some (.inl x6), some (.inl x7)]) DM_X8_ledger_217 rfl (by decide) rfl ?_
      refine v_iinc (q := 222) (ls' := [some (.inr 83), some (.inl x1), some (.inl x2), some (.inl x3), some (.inl (jor x4 0)), some (.inl (x5 + 1)), some (.inl x6), some (.inl x7)]) DM_X8_ledger_219 rfl rfl (by decide) rfl ?_
      refine r_goto (q := 105) DM_X8_ledger_222 (by decide) ?_
      exact Gg.weak [true, true, true, true, true, true, false, false] h
    · replace h := h.2 cc
      refine r_iconst (q := 209) (n := 1) DM_X8_ledger_208 rfl ?_
      refine r_iload (q := 211) DM_X8_ledger_209 rfl rfl ?_
      refine r_ishl (q := 212) DM_X8_ledger_211 rfl ?_
      refine r_goto (q := 216) DM_X8_ledger_212 (by decide) ?_
      refine r_ior (q := 217) DM_X8_ledger_216 rfl ?_
      refine v_istore (q := 219) (ls' := [some (.inr 83), some (.inl x1), some (.inl x2), some (.inl x3), some (.inl (jor x4 (jshl 1 x5))), some (.inl x5), some (.inl x6), some (.inl x7)]) DM_X8_ledger_217 rfl (by decide) rfl ?_
      refine v_iinc (q := 222) (ls' := [some (.inr 83), some (.inl x1), some (.inl x2), some (.inl x3), some (.inl (jor x4 (jshl 1 x5))), some (.inl (x5 + 1)), some (.inl x6), some (.inl x7)]) DM_X8_ledger_219 rfl rfl (by decide) rfl ?_
      refine r_goto (q := 105) DM_X8_ledger_222 (by decide) ?_
      exact Gg.weak [true, true, true, true, true, true, false, false] h
  · replace h := h.2 cc
    refine r_iload (q := 161) DM_X8_ledger_159 rfl rfl ?_
    have i4 := h.1
    replace h := h.2
    refine r_ifeq (q := 164) (t := 201) DM_X8_ledger_161 rfl (by decide) ⟨i4, fun cc => ?_, fun cc => ?_⟩
    · replace h := h.1 cc
      refine r_iload (q := 203) DM_X8_ledger_201 rfl rfl ?_
      refine r_iload (q := 205) DM_X8_ledger_203 rfl rfl ?_
      refine r_ifeq (q := 208) (t := 215) DM_X8_ledger_205 rfl (by decide) ⟨i4, fun cc => ?_, fun cc => ?_⟩
      · replace h := h.1 cc
        refine r_iconst (q := 216) (n := 0) DM_X8_ledger_215 rfl ?_
        refine r_ior (q := 217) DM_X8_ledger_216 rfl ?_
        refine v_istore (q := 219) (ls' := [some (.inr 83), some (.inl x1), some (.inl x2), some (.inl x3), some (.inl (jor x4 0)), some (.inl x5), some (.inl x6), some (.inl x7)]) DM_X8_ledger_217 rfl (by decide) rfl ?_
        refine v_iinc (q := 222) (ls' := [some (.inr 83), some (.inl x1), some (.inl x2), some (.inl x3), some (.inl (jor x4 0)), some (.inl (x5 + 1)), some (.inl x6), some (.inl x7)]) DM_X8_ledger_219 rfl rfl (by decide) rfl ?_
        refine r_goto (q := 105) DM_X8_ledger_222 (by decide) ?_
        exact Gg.weak [true, true, true, true, true, true, false, false] h
      · replace h := h.2 cc
        refine r_iconst (q := 209) (n := 1) DM_X8_ledger_208 rfl ?_
        refine r_iload (q := 211) DM_X8_ledger_209 rfl rfl ?_
        refine r_ishl (q := 212) DM_X8_ledger_211 rfl ?_
        refine r_goto (q := 216) DM_X8_ledger_212 (by decide) ?_
        refine r_ior (q := 217) DM_X8_ledger_216 rfl ?_
        refine v_istore (q := 219) (ls' := [some (.inr 83), some (.inl x1), some (.inl x2), some (.inl x3), some (.inl (jor x4 (jshl 1 x5))), some (.inl x5), some (.inl x6), some (.inl x7)]) DM_X8_ledger_217 rfl (by decide) rfl ?_
        refine v_iinc (q := 222) (ls' := [some (.inr 83), some (.inl x1), some (.inl x2), some (.inl x3), some (.inl (jor x4 (jshl 1 x5))), some (.inl (x5 + 1)), some (.inl x6), some (.inl x7)]) DM_X8_ledger_219 rfl rfl (by decide) rfl ?_
        refine r_goto (q := 105) DM_X8_ledger_222 (by decide) ?_
        exact Gg.weak [true, true, true, true, true, true, false, false] h
    · replace h := h.2 cc
      refine r_aloadn (q := 165) DM_X8_ledger_164 rfl rfl ?_
      refine r_getR (q := 168) (r := 96) DM_X8_ledger_165 rfl fRX8_47 sh_83 rfl ?_
      refine r_iload (q := 170) DM_X8_ledger_168 rfl rfl ?_
      refine r_iald (q := 171) DM_X8_ledger_170 rfl sh_96 (by decide) ⟨h.1, ?_⟩
      have i5 := h.1
      replace h := h.2
      refine r_aloadn (q := 172) DM_X8_ledger_171 rfl rfl ?_
      refine r_getR (q := 175) (r := 86) DM_X8_ledger_172 rfl fRX8_16 sh_83 rfl ?_
      refine r_bipush (q := 177) (n := 40) DM_X8_ledger_175 rfl (by decide) ?_
      refine r_iloadn (q := 178) DM_X8_ledger_177 rfl rfl ?_
      refine r_imul (q := 179) DM_X8_ledger_178 rfl ?_
      refine r_iloadn (q := 180) DM_X8_ledger_179 rfl rfl ?_
      refine r_iadd (q := 181) DM_X8_ledger_180 rfl ?_
      refine r_iload (q := 183) DM_X8_ledger_181 rfl rfl ?_
      refine r_iadd (q := 184) DM_X8_ledger_183 rfl ?_
      refine r_iald (q := 185) DM_X8_ledger_184 rfl sh_86 (by decide) ⟨h.1, ?_⟩
      have i6 := h.1
      replace h := h.2
      have i7 := h.1
      replace h := h.2
      have i8 := h.1
      replace h := h.2
      refine r_icne (q := 188) (t := 192) DM_X8_ledger_185 rfl (by decide) ⟨⟨i7, i8⟩, fun cc => ?_, fun cc => ?_⟩
      · replace h := h.1 cc
        refine r_iconst (q := 193) (n := 0) DM_X8_ledger_192 rfl ?_
        refine v_istore (q := 195) (ls' := [some (.inr 83), some (.inl x1), some (.inl x2), some (.inl x3), some (.inl x4), some (.inl x5), some (.inl 0), some (.inl x7)]) DM_X8_ledger_193 rfl (by decide) rfl ?_
        refine v_iinc (q := 198) (ls' := [some (.inr 83), some (.inl x1), some (.inl x2), some (.inl x3), some (.inl x4), some (.inl x5), some (.inl 0), some (.inl (x7 + 1))]) DM_X8_ledger_195 rfl rfl (by decide) rfl ?_
        refine r_goto (q := 153) DM_X8_ledger_198 (by decide) ?_
        exact h
      · replace h := h.2 cc
        refine r_iconst (q := 189) (n := 1) DM_X8_ledger_188 rfl ?_
        refine r_goto (q := 193) DM_X8_ledger_189 (by decide) ?_
        refine v_istore (q := 195) (ls' := [some (.inr 83), some (.inl x1), some (.inl x2), some (.inl x3), some (.inl x4), some (.inl x5), some (.inl 1), some (.inl x7)]) DM_X8_ledger_193 rfl (by decide) rfl ?_
        refine v_iinc (q := 198) (ls' := [some (.inr 83), some (.inl x1), some (.inl x2), some (.inl x3), some (.inl x4), some (.inl x5), some (.inl 1), some (.inl (x7 + 1))]) DM_X8_ledger_195 rfl rfl (by decide) rfl ?_
        refine r_goto (q := 153) DM_X8_ledger_198 (by decide) ?_
        exact h
theorem dayS_stop {b d : Int} {v : CV} {L : List Int} (h : ¬ (cFirst v d b ≠ -1 ∧ sv v d < v 0 2)) : ∀ n, dayS b d n v L = (v, L)
  | 0 => rfl
  | n + 1 => by rw [dayS, if_neg h]
theorem till_new {b e : Int} (he : 0 ≤ e ∧ e ≤ 900000) : ∀ (n m : Nat) (v w : CV) (L : List Int), eqv v w → 0 ≤ w 0 1 → unc w ≤ n → unc w ≤ m → v 0 1 = (L.length : Int) + n → v 0 15 = (L.length : Int) → (∀ j : Nat, j < L.length → v 9 j = L.getD j 0) → (cTill e b n v e) 0 15 = ((dayS b e m w L).2.length : Int) ∧ ∀ j : Nat, j < (dayS b e m w L).2.length → cTill e b n v e 9 j = (dayS b e m w L).2.getD j 0
  | 0, m, v, w, L, _, hn, hu, _, _, h15, h9 => by
    rw [dayS_stop (fun z => z.1 (unc_first hn (by omega))) m, cTill]
    exact ⟨h15, h9⟩
  | n + 1, m, v, w, L, hv, hn, hu, hm, hl, h15, h9 => by
    by_cases c : cFirst w e b ≠ -1 ∧ sv w e < w 0 2
    · rcases cFirst_can (v := w) (d := e) (b := b) hn with q | q
      · exact absurd q c.1
      · have hw := (can_none q.2).1
        have hu2 := unc_seat (d := e) q.1.1 q.1.2 hw (by omega)
        have hpos : 0 ≤ unc (upv w 8 (cFirst w e b) e) := (cntI_rng _ hn).1
        obtain ⟨m, rfl⟩ : ∃ m', m = m' + 1 := ⟨m - 1, by omega⟩
        have eo : cOpen v e = e := by
          rw [hv.opn]
          unfold cOpen
          exact if_pos c.2
        rw [dayS, if_pos c, cTill, eo, hv.first, if_pos ⟨Int.le_refl _, c.1⟩, hl, show (L.length : Int) + ((n + 1 : Nat) : Int) - ((n : Int) + 1) = (L.length : Int) by omega]
        have len : (L ++ [cFirst w e b]).length = L.length + 1 := by rw [List.length_append, List.length_singleton]
        refine till_new he n m _ _ (L ++ [cFirst w e b]) hv.up.up9.up15 hn (by omega) (by omega) ?_ ?_ (fun j hj => ?_)
        · rw [upv_i (by decide), upv_ne (by decide), upv_ne (by decide), hl, len]; omega
        · rw [upv_self, len]; omega
        · rw [upv_ne (by decide), getD_snoc hj]
          rw [len] at hj
          by_cases hjl : j < L.length
          · rw [if_pos hjl, upv_i (by omega), upv_ne (by decide)]; exact h9 j hjl
          · rw [if_neg hjl, show (j : Int) = (L.length : Int) by omega, upv_self]
    · rw [dayS_stop c m]
      have : cTill e b (n + 1) v e = v := by
        rw [cTill]
        refine if_neg (fun z => c ?_)
        rw [hv.opn, hv.first] at z
        by_cases c2 : sv w e < w 0 2
        · have eo : cOpen w e = e := by unfold cOpen; exact if_pos c2
          rw [eo] at z
          exact ⟨z.2, c2⟩
        · have eo : cOpen w e = cSoon w e := by unfold cOpen; exact if_neg c2
          have := cSoon_rng (v := w) he.1 (w 0 1) hn
          rw [eo] at z
          have z1 := z.1
          unfold cSoon at z1
          omega
      rw [this]
      exact ⟨h15, h9⟩
theorem cl_pre {E : Ex} {d : Nat} {y : Mth} {as : List Vl} {μ μ' : Mem} {Q : Option Vl → Mem → Prop} (h : agr μ μ') (k : Cl E d y as μ' Q) : Cl E d y as μ Q := by
  intro p e R s m args below meth c H locs cells slots lsA QQ C hP hS hl hr
  exact k p e R s m args below meth c H locs cells slots lsA QQ C (va_P_agr h hP) hS hl hr
theorem dayS_rng {b d : Int} (hd : d ≠ -1000000) : ∀ (n : Nat) (v : CV) (L : List Int), 0 ≤ v 0 1 → (∀ x ∈ L, 0 ≤ x ∧ x < v 0 1) → ((dayS b d n v L).2.length : Int) ≤ L.length + unc v ∧ ∀ x ∈ (dayS b d n v L).2, 0 ≤ x ∧ x < v 0 1
  | 0, v, L, hn, hL => by
    have : 0 ≤ unc v := (cntI_rng _ hn).1
    exact ⟨by show (L.length : Int) ≤ _; omega, hL⟩
  | n + 1, v, L, hn, hL => by
    rw [dayS]
    split
    · next c =>
      rcases cFirst_can (v := v) (d := d) (b := b) hn with q | q
      · exact absurd q c.1
      · have hu := unc_seat (d := d) q.1.1 q.1.2 (can_none q.2).1 hd
        have := dayS_rng (b := b) hd n (upv v 8 (cFirst v d b) d) (L ++ [cFirst v d b]) hn (fun x hx => by
          rcases List.mem_append.1 hx with e | e
          · exact hL x e
          · rw [List.mem_singleton.1 e]; exact q.1)
        rw [List.length_append, List.length_singleton] at this
        exact ⟨by omega, this.2⟩
    · have : 0 ≤ unc v := (cntI_rng _ hn).1
      exact ⟨by show (L.length : Int) ≤ _; omega, hL⟩
def ldB (L : List Int) (n : Int) (f : Int → Int) : Bool := decide ((L.length : Int) = n ∧ ∀ j : Nat, j < L.length → L.getD j 0 = f j)
theorem up_congr {μ μ' : Mem} {k : Nat} {i x : Int} (h : μ' k = μ k) : up μ' k i x k = up μ k i x k := by
  funext j
  by_cases e : j = i
  · subst e; rw [up_self, up_self]
  · rw [up_off (Or.inr e), up_off (Or.inr e), h]
theorem jor_0 : ∀ a, a < 256 → jor ((a : Nat) : Int) 0 = (a : Int) := by decide +kernel
section P61
variable {E : Ex} {μ : Mem} {Q : Option Vl → Mem → Prop} {x1 x2 x3 x4 x5 b : Int} {r : Nat}
theorem k_X7_areAllPeople (hr : roS r) (hn : 0 ≤ μ 4 1 ∧ μ 4 1 ≤ 6) (hb : 0 ≤ x2 ∧ 0 ≤ x3 ∧ x2 + x3 ≤ 40) (hi : ∀ j, 0 ≤ j → j < 40 → inR (μ (r + 1) j)) (h1 : (∀ j, 0 ≤ j → j < x3 → 0 ≤ μ (r + 1) (x2 + j) ∧ μ (r + 1) (x2 + j) < μ 4 1) → Q (some (.inl (bi true))) μ) (h2 : ¬ (∀ j, 0 ≤ j → j < x3 → 0 ≤ μ (r + 1) (x2 + j) ∧ μ (r + 1) (x2 + j) < μ 4 1) → Q (some (.inl (bi false))) μ) : Cl E 2 M_X7_areAllPeople [.inr 0, .inr r, .inl x2, .inl x3] μ Q := by
  refine s_X7_areAllPeople hr ?_
  refine up_ind (N := x3) (P := fun k => (∀ j, 0 ≤ j → j < k → 0 ≤ μ (r + 1) (x2 + j) ∧ μ (r + 1) (x2 + j) < μ 4 1) → Gg E 2 M_X7_areAllPeople 3 [some (.inr 0), some (.inr r), some (.inl x2), some (.inl x3), some (.inl k)] [] μ Q) 0 hb.2.1 (fun ha => ?_) (fun k k0 k1 ih ha => ?_) (fun j j0 j1 => absurd j1 (by omega))
  · exact s_X7_areAllPeople_3 hr ⟨by omega, by omega, fun _ => h1 ha, fun z => absurd (Int.le_refl _) z⟩
  · refine s_X7_areAllPeople_3 hr ⟨by omega, by omega, fun z => absurd z (by omega), fun _ => ⟨by omega, hi _ (by omega) (by omega), by omega, fun z => ih (fun j j0 j1 => ?_), fun z => h2 (fun q => z (q k k0 k1))⟩⟩
    by_cases e : j = k
    · subst e; exact z
    · exact ha j j0 (by omega)
theorem k_X7_areSeatedNext {a : Int → Int} (hr : roS r) (hr2 : 47 ≤ r) (hC : CtOK (cv μ 4) a) (g4 : RgC μ 4) (g14 : RgC μ 14) (hRo : RoOk E) (hs : μ 4 0 = 1) (hb : 0 ≤ x2 ∧ (0 ≤ x3 ∧ x3 ≤ 6) ∧ x2 + x3 ≤ 40) (hi : ∀ j, 0 ≤ j → j < 40 → inR (μ (r + 1) j)) (h : ∀ μ1 : Mem, (∀ k, (k < 14 ∨ 24 ≤ k) → μ1 k = μ k) → RgC μ1 14 → Q (some (.inl (bi (ldB (passV (cv μ 4) b).2 x3 (fun j => μ (r + 1) (x2 + j)))))) μ1) : Cl E 5 M_X7_areSeatedNext [.inr 0, .inr r, .inl x2, .inl x3, .inl b] μ Q := by
  refine s_X7_areSeatedNext hr ⟨by decide, Or.inr hs, fun μ3 h3 => ?_⟩
  have v4 := hC.1.2.1.2.2.2.1
  have v1 := hC.1.2.1.2.1
  have v9 := hC.2.2
  replace v4 : 0 ≤ μ 4 4 ∧ μ 4 4 ≤ 1500 := v4
  replace v1 : 0 ≤ μ 4 1 ∧ μ 4 1 ≤ 6 := v1
  replace v9 : μ 4 4 ≤ 999 := v9
  have e3 : eqv (cv μ 4) (cv μ3 14) := by rw [h3.1]; exact eqv.tk.symm
  have g3 : RgC μ3 14 := cv_rng h3.1 (Rgv.tk (Rgv.of g14) (Rgv.of g4))
  have f4 : μ3 4 = μ 4 := h3.2 4 (by omega)
  have C3 := hC.eqv e3
  have d3 : cv μ3 14 0 4 = μ 4 4 := (e3.1 4 (by decide)).symm
  have n3 : cv μ3 14 0 1 = μ 4 1 := (e3.1 1 (by decide)).symm
  rw [f4]
  refine ⟨g3, hRo, C3.1.2.1, by omega, fun μ8 h8 => ?_⟩
  have o8 : ∀ k, (k < 14 ∨ 24 ≤ k) → μ8 k = μ k := fun k hk => by rw [h8.2 k (by omega), h3.2 k (by omega)]
  have g8 : RgC μ8 14 := by
    refine cv_rng h8.1 (Rgv.seats (Rgv.of g3) (by omega) C3.1.2.1.2.1 ?_)
    rw [d3]; omega
  obtain ⟨L, eL⟩ : ∃ L, L = (passV (cv μ 4) b).2 := ⟨_, rfl⟩
  have uu := cntI_rng (f := fun p => decide (cv μ 4 8 p = -1000000)) (cv μ 4 0 1) v1.1
  replace uu : 0 ≤ unc (cv μ 4) ∧ unc (cv μ 4) ≤ μ 4 1 := uu
  have nw := till_new (b := b) (e := μ 4 4 + 1) (by omega) (μ 4 1).toNat 7 (upv (cv μ3 14) 0 15 0) (cv μ 4) [] e3.symm.up15 v1.1 (by omega) (by omega) (by rw [upv_i (by decide), n3]; simp only [List.length_nil]; omega) (by rw [upv_self]; rfl) (fun j hj => absurd hj (Nat.not_lt_zero j))
  have es : cSeats (cv μ3 14) (μ 4 4 + 1) b = cTill (μ 4 4 + 1) b (μ 4 1).toNat (upv (cv μ3 14) 0 15 0) (μ 4 4 + 1) := by unfold cSeats; rw [n3, d3]
  have eL2 : (dayS b (μ 4 4 + 1) 7 (cv μ 4) []).2 = L := by rw [eL, passV_day]; rfl
  rw [← es, ← h8.1, eL2] at nw
  have q15 : μ8 14 15 = (L.length : Int) := nw.1
  have q9 : ∀ j : Nat, j < L.length → μ8 (14 + 9) j = L.getD j 0 := nw.2
  rw [← eL] at h
  have r15 := g8.f 15
  have ri : μ8 (r + 1) = μ (r + 1) := o8 _ (by omega)
  refine ⟨by omega, by omega, fun z => ?_, fun z => ?_⟩
  · refine up_ind (N := x3) (P := fun k => (∀ j : Nat, (j : Int) < k → L.getD j 0 = μ (r + 1) (x2 + j)) → Gg E 5 M_X7_areSeatedNext 45 [some (.inr 0), some (.inr r), some (.inl x2), some (.inl x3), some (.inl b), some (.inl k)] [] μ8 Q) 0 hb.2.1.1 (fun ha => ?_) (fun k k0 k1 ih ha => ?_) (fun j hj => absurd hj (by omega))
    · refine s_X7_areSeatedNext_45 hr ⟨by omega, by omega, fun _ => ?_, fun q => absurd (Int.le_refl _) q⟩
      have := h μ8 o8 g8
      rwa [show ldB L x3 (fun j => μ (r + 1) (x2 + j)) = true from decide_eq_true ⟨by omega, fun j hj => ha j (by omega)⟩] at this
    · have g9 := g8 9 k (by decide)
      have e9 := q9 k.toNat (by omega)
      rw [Int.toNat_of_nonneg k0] at e9
      refine s_X7_areSeatedNext_45 hr ⟨by omega, by omega, fun q => absurd q (by omega), fun _ => ⟨by omega, by omega, by omega, by rw [ri]; exact hi _ (by omega) (by omega), fun y => ih (fun j hj => ?_), fun y => ?_⟩⟩
      · by_cases e : (j : Int) = k
        · rw [ri, e9] at y
          rw [show j = k.toNat by omega, y, Int.toNat_of_nonneg k0]
        · exact ha j (by omega)
      · have := h μ8 o8 g8
        rwa [show ldB L x3 (fun j => μ (r + 1) (x2 + j)) = false from decide_eq_false (fun q => y (by rw [ri, e9, q.2 k.toNat (by omega), Int.toNat_of_nonneg k0]))] at this
  · have := h μ8 o8 g8
    rwa [show ldB L x3 (fun j => μ (r + 1) (x2 + j)) = false from decide_eq_false (fun q => z (by rw [q15]; exact q.1))] at this
/-- the turns by which it is so, as bits -/
def ldA (v : CV) (n : Int) (f : Int → Int) (t : Int) : Nat := foldI (fun k a => if ldB (passV v k).2 n f then a ||| 2 ^ k.toNat else a) 0 t
theorem ldA_s {v : CV} {n : Int} {f : Int → Int} {k : Int} (hk : 0 ≤ k) : ldA v n f (k + 1) = if ldB (passV v k).2 n f then ldA v n f k ||| 2 ^ k.toNat else ldA v n f k := foldI_succ hk
theorem ldA_lt {v : CV} {n : Int} {f : Int → Int} : ∀ k, 0 ≤ k → k ≤ 8 → ldA v n f k < 256 := fun k k0 k8 =>
  foldI_inv (I := fun _ a => a < 256) (N := 8) (by decide) (fun p a p0 p1 ha => by
    split
    · exact Nat.or_lt_two_pow (n := 8) ha (Nat.pow_lt_pow_right (by decide) (by omega))
    · exact ha) k k0 k8
theorem pr_ledger (hI : Inv μ) (hRo : RoOk E) (i1 : inR x1) (i2 : inR x2) (i3 : inR x3) : Pair E 6 M_X7_ledger 5 M_X8_ledger [.inl x1, .inl x2, .inl x3] μ := by
  have hC := hI.2.2.2.2.1
  have g4 := hI.2.2.2.2.2.2.2.1
  have g14 := hI.2.2.2.2.2.2.2.2.1
  have a0 : μ 89 0 = μ 4 2 := hC.1.1.1
  have e2 : μ 89 2 = μ 4 1 := hC.1.a2
  obtain ⟨v0, v1, -, v4, -⟩ := hC.1.2.1
  simp only [cv, Nat.add_zero] at v0 v1 v4
  have v9 : μ 4 4 ≤ 999 := hC.2.2
  have head : ∀ (μ' : Mem) {Q : Option Vl → Mem → Prop}, μ' 89 = μ 89 → μ 4 0 ≠ 0 → ((¬ (0 ≤ x1 ∧ x1 ≤ 7) → Q (some (.inl (-1000001))) μ') ∧ ((0 ≤ x1 ∧ x1 ≤ 7) → ((0 ≤ x3 ∧ x3 ≤ 6) → (0 ≤ x1 ∧ x1 < 8) ∧ inR (μ' 84 x1) ∧ (¬ (μ' 84 x1 = -1000000) → Cl E 0 M_X8_isPart [.inr 83, .inl x1, .inl x2, .inl x3] μ' (fun vv μ4 => ∃ v5, vv = some (.inl (bi v5)) ∧ (v5 = true → Gg E 5 M_X8_ledger 63 [some (.inr 83), some (.inl x1), some (.inl x2), some (.inl x3), some (.inl 0), none, none, none] [] μ4 Q) ∧ (v5 = false → ∀ μ6 : Mem, μ6 = up μ4 83 4 2 → Q (some (.inl (-1000010 - 2))) μ6))) ∧ ((μ' 84 x1 = -1000000) → ∀ μ7 : Mem, μ7 = up μ' 83 4 1 → Q (some (.inl (-1000010 - 1))) μ7)) ∧ (¬ (0 ≤ x3 ∧ x3 ≤ 6) → Q (some (.inl (-1000001))) μ'))) → Cl E 5 M_X8_ledger [.inr 83, .inl x1, .inl x2, .inl x3] μ' Q := fun μ' Q f89 hs hq => s_X8_ledger i1 i2 i3 (by
    rw [f89]
    exact ⟨by omega, fun _ => hq, fun q => absurd (show 0 < μ 89 0 by omega) q⟩)
  have st : ∀ (f : Int) (μ8 μ9 : Mem), (0 ≤ f ∧ f ≤ 5) → μ8 = up μ 0 10 f → μ9 = up μ8 83 4 f → Inv μ9 := fun f μ8 μ9 hf e8 e9 => by rw [e9, e8]; exact hI.st hf
  refine s_X7_ledger i1 i2 i3 ⟨by omega, fun z => ⟨fun z1 => ⟨_, rfl, by decide, head μ rfl z ⟨fun _ => ⟨rfl, hI⟩, fun q => absurd (by omega) z1⟩⟩, fun z1 => ⟨fun z3 => ⟨z1, fun hro => ?_⟩, fun z3 => ⟨_, rfl, by decide, head μ rfl z ⟨fun q => absurd (by omega) q, fun _ => ⟨fun q => absurd (by omega) z3, fun _ => ⟨rfl, hI⟩⟩⟩⟩⟩⟩, fun z => ⟨_, rfl, by decide, s_X8_ledger i1 i2 i3 ⟨by omega, fun q => absurd q (by omega), fun _ => ⟨rfl, hI⟩⟩⟩⟩
  have hs : μ 4 0 = 1 := by omega
  have r1 := rw_rng z1.1 z1.2
  rcases hI.1 x1 z1.1 z1.2 with q | ⟨q1, q2, q3, q4, q5⟩
  · refine ⟨by omega, fun y => absurd q.1 y, fun _ μ8 e8 => ⟨_, rfl, by decide, head μ8 (by rw [e8, up_ne (by decide)]) z ?_⟩⟩
    have f84 : μ8 84 = μ 84 := by rw [e8, up_ne (by decide)]
    rw [f84]
    exact ⟨fun y => absurd (by omega) y, fun _ => ⟨fun _ => ⟨z1, by omega, fun y => absurd q.2 y, fun _ μ9 e9 => ⟨rfl, st 1 _ μ9 (by decide) e8 e9⟩⟩, fun y => absurd (by omega) y⟩⟩
  refine ⟨by omega, fun _ => ⟨q1, fun c => ?_, fun c μ8 e8 => ⟨_, rfl, by decide, head μ8 (by rw [e8, up_ne (by decide)]) z ?_⟩⟩, fun y => absurd y (by omega)⟩
  rotate_left
  · have f84 : μ8 84 = μ 84 := by rw [e8, up_ne (by decide)]
    have f85 : μ8 85 = μ 85 := by rw [e8, up_ne (by decide)]
    rw [f84]
    exact ⟨fun y => absurd (by omega) y, fun _ => ⟨fun _ => ⟨z1, by omega, fun _ => k_X8_isPart i2 i3 z1 (by rw [f85]; omega) ⟨_, rfl, fun y => absurd (of_decide_eq_true y) (by rw [f85]; omega), fun _ μ9 e9 => ⟨rfl, st 2 _ μ9 (by decide) e8 e9⟩⟩, fun y => absurd y (by omega)⟩, fun y => absurd (by omega) y⟩⟩
  have hi : ∀ j, 0 ≤ j → j < 40 → inR (μ (rw x1 + 1) j) := fun j j0 j1 => (q5 j j0 j1).2
  have it : ∀ j, 0 ≤ j → j < x3 → μ 86 (40 * x1 + x2 + j) = μ (rw x1 + 1) (x2 + j) := fun j j0 j1 => by
    rw [show 40 * x1 + x2 + j = 40 * x1 + (x2 + j) by omega]; exact (q5 _ (by omega) (by omega)).1
  have part : ∀ (μ' : Mem) {Q : Option Vl → Mem → Prop}, μ' 89 = μ 89 → μ' 84 = μ 84 → μ' 85 = μ 85 → Gg E 5 M_X8_ledger 63 [some (.inr 83), some (.inl x1), some (.inl x2), some (.inl x3), some (.inl 0), none, none, none] [] μ' Q → Cl E 5 M_X8_ledger [.inr 83, .inl x1, .inl x2, .inl x3] μ' Q := fun μ' Q f89 f84 f85 hq => head μ' f89 z (by
    rw [f84]
    exact ⟨fun y => absurd (by omega) y, fun _ => ⟨fun _ => ⟨z1, by omega, fun _ => k_X8_isPart i2 i3 z1 (by rw [f85]; omega) ⟨_, rfl, fun _ => hq, fun y => absurd (show 0 ≤ x3 ∧ 0 ≤ x2 ∧ x2 + x3 ≤ μ' 85 x1 by rw [f85]; omega) (of_decide_eq_false y)⟩, fun y => absurd y (by omega)⟩, fun y => absurd (by omega) y⟩⟩)
  refine k_X7_areAllPeople hro v1 ⟨c.2.1, c.1, by omega⟩ hi (fun all => ⟨_, rfl, fun _ => ?_, fun y => absurd y (by decide)⟩) (fun nal => ⟨_, rfl, fun y => absurd y (by decide), fun _ => ⟨_, rfl, by decide, part μ rfl rfl rfl ?_⟩⟩)
  rotate_left
  · refine up_ind (N := x3) (P := fun k => (∀ j, 0 ≤ j → j < k → 0 ≤ μ (rw x1 + 1) (x2 + j) ∧ μ (rw x1 + 1) (x2 + j) < μ 4 1) → Gg E 5 M_X8_ledger 63 [some (.inr 83), some (.inl x1), some (.inl x2), some (.inl x3), some (.inl k), none, none, none] [] μ _) 0 c.1 (fun ha => absurd ha nal) (fun k k0 k1 ih ha => ?_) (fun j j0 j1 => absurd j1 (by omega))
    have ik := it k k0 k1
    refine s_X8_ledger_63 ⟨by omega, by omega, fun y => absurd y (by omega), fun _ => ⟨by omega, by rw [ik]; exact hi _ (by omega) (by omega), by omega, fun y => ih (fun j j0 j1 => ?_), fun _ => ⟨rfl, hI⟩⟩⟩
    by_cases e : j = k
    · subst e; rw [ik] at y; omega
    · exact ha j j0 (by omega)
  obtain ⟨A, eA⟩ : ∃ A : Int → Nat, A = ldA (cv μ 4) x3 (fun j => μ (rw x1 + 1) (x2 + j)) := ⟨_, rfl⟩
  have A0 : A 0 = 0 := by rw [eA]; rfl
  have As : ∀ k, 0 ≤ k → A (k + 1) = if ldB (passV (cv μ 4) k).2 x3 (fun j => μ (rw x1 + 1) (x2 + j)) then A k ||| 2 ^ k.toNat else A k := fun k hk => by rw [eA]; exact ldA_s hk
  have Al : ∀ k, 0 ≤ k → k ≤ 8 → A k < 256 := fun k k0 k8 => by rw [eA]; exact ldA_lt k k0 k8
  suffices hh : ∀ μ' : Mem, (∀ k, (k < 14 ∨ 24 ≤ k) → μ' k = μ k) → RgC μ' 14 → Gg E 6 M_X7_ledger 92 [some (.inr 0), some (.inl x1), some (.inl x2), some (.inl x3), some (.inr (rw x1)), some (.inl ((A 0 : Nat) : Int)), some (.inl 0)] [] μ' (fun v μ1 => ∃ r, v = some (.inl r) ∧ inR r ∧ Cl E 5 M_X8_ledger [.inr 83, .inl x1, .inl x2, .inl x3] μ1 (fun w μ2 => w = some (.inl r) ∧ Inv μ2)) by
    rw [A0] at hh
    exact hh μ (fun _ _ => rfl) g14
  refine up_ind (N := 8) (P := fun k => ∀ μ' : Mem, (∀ k, (k < 14 ∨ 24 ≤ k) → μ' k = μ k) → RgC μ' 14 → Gg E 6 M_X7_ledger 92 [some (.inr 0), some (.inl x1), some (.inl x2), some (.inl x3), some (.inr (rw x1)), some (.inl ((A k : Nat) : Int)), some (.inl k)] [] μ' (fun v μ1 => ∃ r, v = some (.inl r) ∧ inR r ∧ Cl E 5 M_X8_ledger [.inr 83, .inl x1, .inl x2, .inl x3] μ1 (fun w μ2 => w = some (.inl r) ∧ Inv μ2))) 0 (by decide) (fun μ' o g => ?_) (fun k k0 k8 ih μ' o g => ?_)
  · have a8 := Al 8 (by decide) (by decide)
    refine s_X7_ledger_92 hro ⟨by decide, fun _ μb eb => ⟨_, rfl, by omega, ?_⟩, fun y => absurd (by decide) y⟩
    have ob : ∀ k, k ≠ 0 → (k < 14 ∨ 24 ≤ k) → μb k = μ k := fun k hk h2 => by rw [eb, up_ne hk, o k h2]
    have f89 := ob 89 (by decide) (by omega)
    refine part μb f89 (ob 84 (by decide) (by omega)) (ob 85 (by decide) (by omega)) ?_
    have f86 := ob 86 (by decide) (by omega)
    refine up_ind (N := x3) (P := fun k => Gg E 5 M_X8_ledger 63 [some (.inr 83), some (.inl x1), some (.inl x2), some (.inl x3), some (.inl k), none, none, none] [] μb (fun w μ2 => w = some (.inl ((A 8 : Nat) : Int)) ∧ Inv μ2)) 0 c.1 ?_ (fun k k0 k1 ih => ?_)
    · refine s_X8_ledger_63 ⟨by omega, by omega, fun _ => ?_, fun y => absurd (Int.le_refl _) y⟩
      suffices hh : ∀ μt : Mem, goR μb μt → Gg E 5 M_X8_ledger 105 [some (.inr 83), some (.inl x1), some (.inl x2), some (.inl x3), some (.inl ((A 0 : Nat) : Int)), some (.inl 0), none, none] [] μt (fun w μ2 => w = some (.inl ((A 8 : Nat) : Int)) ∧ Inv μ2) by
        rw [A0] at hh
        exact hh μb ⟨fun _ _ => rfl, fun _ _ _ _ => rfl⟩
      refine up_ind (N := 8) (P := fun k => ∀ μt : Mem, goR μb μt → Gg E 5 M_X8_ledger 105 [some (.inr 83), some (.inl x1), some (.inl x2), some (.inl x3), some (.inl ((A k : Nat) : Int)), some (.inl k), none, none] [] μt (fun w μ2 => w = some (.inl ((A 8 : Nat) : Int)) ∧ Inv μ2)) 0 (by decide) (fun μt gt => ?_) (fun k k0 k8 ih μt gt => ?_)
      · refine s_X8_ledger_105 ⟨by decide, fun _ μz ez => ⟨rfl, ?_⟩, fun y => absurd (by decide) y⟩
        have hI2 : Inv (up (up μ 0 10 0) 83 4 0) := hI.st (by decide)
        refine hI2.fore (μ1 := μz) (fun k hk => ?_) (fun i hi => ?_) ?_ ?_
        · rw [ez, up_ne (by omega), gt.2 k (by omega) (by omega) (by omega), eb, up_ne (k' := k) (k := 83) (by omega)]
          by_cases e : k = 0
          · subst e; exact up_congr (o 0 (by omega))
          · rw [up_ne e, up_ne e, o k (by omega)]
        · rw [ez]
          by_cases e : i = 4
          · subst e; rw [up_self, up_self]
          · rw [up_off (Or.inr e), up_off (Or.inr e), gt.1 i hi, eb, up_ne (by decide), up_ne (by decide), o 83 (by omega)]
        · exact g.cg (fun k a b => by rw [ez, up_ne (by omega), gt.2 k (by omega) (by omega) (by omega), eb, up_ne (by omega)])
        · exact hI.2.2.2.2.2.2.2.2.2.1.cg (fun k a b => by rw [ez, up_ne (by omega), gt.2 k (by omega) (by omega) (by omega), ob k (by omega) (by omega)])
      · have t89 : μt 89 = μ 89 := by rw [gt.2 89 (by decide) (by decide) (by decide), f89]
        have ak := Al k k0 (by omega)
        refine s_X8_ledger_105 ⟨by omega, fun y => absurd y (by omega), fun _ => k_X8_copies sh_89 (by decide) sh_91 (by decide) (by decide) (by decide) (by decide) (fun μ1 o1 o2 o3 => ⟨rfl, ?_⟩)⟩
        refine cl_pre (clip_agr (c := 91) (n := 91) sh_91) ?_
        obtain ⟨μ2, em⟩ : ∃ μ2, μ2 = clip μ1 91 91 := ⟨_, rfl⟩
        rw [show clip μ1 91 ((91 : Nat) : Int) = μ2 from em.symm]
        have k2 : ∀ k, k ≠ 91 → μ2 k = μt k := fun k hk => by rw [em, clip_ne hk, o1 k hk]
        have r2 : Rel (cv μ 4) (μ2 91) := by
          refine hC.1.arr (fun i i0 i1 => ?_) (fun i => ?_)
          · have := o2 i i0 i1
            rw [Int.zero_add, t89] at this
            rw [em, clip_in ⟨i0, i1⟩, this]
          · rw [em]
            by_cases hi : 0 ≤ i ∧ i < 91
            · have := o2 i hi.1 hi.2
              rw [Int.zero_add, t89] at this
              rw [clip_in hi, this]; exact hC.1.2.2.1 i
            · rw [clip_out hi]; omega
        refine k_X8_passes (v := cv μ 4) sh_91 (by decide) r2 (by omega) (show μ 4 4 < 1500 by omega) hs (fun μ5 h5 => ⟨rfl, ?_⟩)
        obtain ⟨w1, w2, w3, w4, w5⟩ := h5
        have g5 : goR μb μ5 := ⟨fun i hi => by rw [w4 i hi, k2 83 (by decide), gt.1 i hi], fun k a b d => by rw [w5 k b a d, k2 k b, gt.2 k a b d]⟩
        have m86 : μ5 86 = μ 86 := by rw [g5.2 86 (by decide) (by decide) (by decide), f86]
        have dr := dayS_rng (b := k) (d := μ 4 4 + 1) (by omega) 7 (cv μ 4) [] v1.1 (fun x hx => absurd hx (List.not_mem_nil))
        replace dr : ((passV (cv μ 4) k).2.length : Int) ≤ 0 + unc (cv μ 4) ∧ ∀ x ∈ (passV (cv μ 4) k).2, 0 ≤ x ∧ x < μ 4 1 := by rw [passV_day]; exact dr
        have uu := cntI_rng (f := fun p => decide (cv μ 4 8 p = -1000000)) (cv μ 4 0 1) v1.1
        replace uu : 0 ≤ unc (cv μ 4) ∧ unc (cv μ 4) ≤ μ 4 1 := uu
        have no : ldB (passV (cv μ 4) k).2 x3 (fun j => μ (rw x1 + 1) (x2 + j)) = false → ∀ i, 0 ≤ i → i ≤ x3 → Gg E 5 M_X8_ledger 153 [some (.inr 83), some (.inl x1), some (.inl x2), some (.inl x3), some (.inl ((A k : Nat) : Int)), some (.inl k), some (.inl 0), some (.inl i)] [] μ5 (fun w μ2 => w = some (.inl ((A 8 : Nat) : Int)) ∧ Inv μ2) := by
          intro hf i i0 i1
          have := ih μ5 g5
          rw [As k k0, hf] at this
          have e : jor ((A k : Nat) : Int) 0 = (A k : Int) := jor_0 _ ak
          exact s_X8_ledger_153 ⟨by omega, by omega, fun _ => ⟨by decide, fun _ => by rw [e]; exact this, fun y => absurd rfl y⟩, fun _ => ⟨by decide, fun _ => ⟨fun _ => by rw [e]; exact this, fun y => absurd rfl y⟩, fun y => absurd rfl y⟩⟩
        refine ⟨by omega, by omega, fun y => no (decide_eq_false (fun q => y (by rw [w2]; exact q.1))) 0 (by decide) c.1, fun y => ?_⟩
        refine up_ind (N := x3) (P := fun i => (∀ j : Nat, (j : Int) < i → (passV (cv μ 4) k).2.getD j 0 = μ (rw x1 + 1) (x2 + j)) → Gg E 5 M_X8_ledger 153 [some (.inr 83), some (.inl x1), some (.inl x2), some (.inl x3), some (.inl ((A k : Nat) : Int)), some (.inl k), some (.inl 1), some (.inl i)] [] μ5 (fun w μ2 => w = some (.inl ((A 8 : Nat) : Int)) ∧ Inv μ2)) 0 c.1 (fun ha => ?_) (fun i i0 i1 ih2 ha => ?_) (fun j hj => absurd hj (by omega))
        · have t : ldB (passV (cv μ 4) k).2 x3 (fun j => μ (rw x1 + 1) (x2 + j)) = true := decide_eq_true ⟨by omega, fun j hj => ha j (by omega)⟩
          have := ih μ5 g5
          rw [As k k0, t] at this
          have e := bit_add (A k) ak k.toNat (by omega)
          rw [Int.toNat_of_nonneg k0] at e
          exact s_X8_ledger_153 ⟨by omega, by omega, fun _ => ⟨by decide, fun y => absurd y (by decide), fun _ => by rw [e]; exact this⟩, fun y => absurd (Int.le_refl _) y⟩
        · have e96 := w3 i.toNat (by omega)
          rw [Int.toNat_of_nonneg i0] at e96
          have ii := it i i0 i1
          have hii := hi (x2 + i) (by omega) (by omega)
          have ir : 0 ≤ (passV (cv μ 4) k).2.getD i.toNat 0 ∧ (passV (cv μ 4) k).2.getD i.toNat 0 ≤ 6 := by
            have hl : i.toNat < (passV (cv μ 4) k).2.length := by omega
            have := dr.2 _ (List.getElem_mem hl)
            rw [List.getD_eq_getElem?_getD, List.getElem?_eq_getElem hl]
            show 0 ≤ (passV (cv μ 4) k).2[i.toNat] ∧ (passV (cv μ 4) k).2[i.toNat] ≤ 6
            omega
          refine s_X8_ledger_153 ⟨by omega, by omega, fun y => absurd y (by omega), fun _ => ⟨by decide, fun y => absurd y (by decide), fun _ => ⟨by omega, by omega, by omega, by rw [m86, ii]; exact hii, fun y => no (decide_eq_false (fun q => y ?_)) (i + 1) (by omega) (by omega), fun y => ih2 (fun j hj => ?_)⟩⟩⟩
          · rw [m86, ii, e96, q.2 i.toNat (by omega), Int.toNat_of_nonneg i0]
          · by_cases e : (j : Int) = i
            · rw [m86, ii, e96] at y
              rw [show j = i.toNat by omega, y, Int.toNat_of_nonneg i0]
            · exact ha j (by omega)
    · have ik := it k k0 k1
      have ak := all k k0 k1
      refine s_X8_ledger_63 ?_
      rw [f86, f89, ik]
      exact ⟨by omega, by omega, fun y => absurd y (by omega), fun _ => ⟨by omega, hi _ (by omega) (by omega), by omega, fun _ => ih, fun y => absurd (by omega) y⟩⟩
  · have e4 : eqv (cv μ 4) (cv μ' 4) := cv_eqv (fun k a b => o k (by omega))
    have ri : μ' (rw x1 + 1) = μ (rw x1 + 1) := o _ (by omega)
    have ak := Al k k0 (by omega)
    have pe : (passV (cv μ' 4) k).2 = (passV (cv μ 4) k).2 := by
      rw [passV_day, passV_day]
      show (dayS k (cv μ' 4 0 4 + 1) 7 (cv μ' 4) []).2 = (dayS k (cv μ 4 0 4 + 1) 7 (cv μ 4) []).2
      rw [← e4.1 4 (by decide)]
      exact (dayS_eqv 7 _ _ [] e4).2.symm
    refine s_X7_ledger_92 hro ⟨by omega, fun y => absurd y (by omega), fun _ => k_X7_areSeatedNext hro r1.1 (hC.eqv e4) (g4.cg (fun k a b => o k (by omega))) g hRo (by rw [o 4 (by omega)]; exact hs) ⟨c.2.1, by omega, by omega⟩ (by rw [ri]; exact hi) (fun μb ob gb => ⟨_, rfl, ?_⟩)⟩
    rw [ri, pe]
    have := ih μb (fun k hk => by rw [ob k hk, o k hk]) gb
    rw [As k k0] at this
    refine ⟨fun y => by rwa [y] at this, fun y => ?_⟩
    rw [y] at this
    have e := bit_add (A k) ak k.toNat (by omega)
    rw [Int.toNat_of_nonneg k0] at e
    rw [e]; exact this
end P61

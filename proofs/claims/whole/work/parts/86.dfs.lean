/-! Planner: all rows, one deeper with each of the people. -/
set_option maxRecDepth 20000 in
theorem s_X3_firstOpenSeat {E : Ex} {μ : Mem} {Q : Option Vl → Mem → Prop}  (h : Gg E 0 M_X3_firstOpenSeat 4 [some (.inr 41), some (.inl 0), some (.inl 1)] [] μ Q) : Cl E 0 M_X3_firstOpenSeat [.inr 41] μ Q := by
  show Gg E 0 M_X3_firstOpenSeat 0 [some (.inr 41), none, none] [] μ Q
  refine r_iconst (q := 1) (n := 0) DM_X3_firstOpenSeat_0 rfl ?_
  refine v_istoren (q := 2) (ls' := [some (.inr 41), some (.inl 0), none]) DM_X3_firstOpenSeat_1 rfl (by decide) rfl ?_
  refine r_iconst (q := 3) (n := 1) DM_X3_firstOpenSeat_2 rfl ?_
  refine v_istoren (q := 4) (ls' := [some (.inr 41), some (.inl 0), some (.inl 1)]) DM_X3_firstOpenSeat_3 rfl (by decide) rfl ?_
  exact h
set_option maxRecDepth 20000 in
theorem s_X3_firstOpenSeat_4 {E : Ex} {μ : Mem} {Q : Option Vl → Mem → Prop} {x1 x2 : Int}  (h : inR x2 ∧ inR (μ 41 5) ∧ (x2 ≥ (μ 41 5) → Q (some (.inl x1)) μ) ∧ (¬ x2 ≥ (μ 41 5) → (0 ≤ x2 ∧ x2 < 4) ∧ (0 ≤ x1 ∧ x1 < 4) ∧ inR (μ 44 x2) ∧ inR (μ 44 x1) ∧ ((μ 44 x2) ≥ (μ 44 x1) → Gg E 0 M_X3_firstOpenSeat 4 [some (.inr 41), some (.inl x1), some (.inl (x2 + 1))] [] μ Q) ∧ (¬ (μ 44 x2) ≥ (μ 44 x1) → Gg E 0 M_X3_firstOpenSeat 4 [some (.inr 41), some (.inl x2), some (.inl (x2 + 1))] [] μ Q))) : Gg E 0 M_X3_firstOpenSeat 4 [some (.inr 41), some (.inl x1), some (.inl x2)] [] μ Q := by
  refine r_iloadn (q := 5) DM_X3_firstOpenSeat_4 rfl rfl ?_
  refine r_aloadn (q := 6) DM_X3_firstOpenSeat_5 rfl rfl ?_
  refine v_getI (q := 9) (ji := 5) DM_X3_firstOpenSeat_6 rfl fRX3_56 sh_41 rfl rfl ?_
  have i1 := h.1
  replace h := h.2
  have i2 := h.1
  replace h := h.2
  refine r_icge (q := 12) (t := 35) DM_X3_firstOpenSeat_9 rfl (by decide) ⟨⟨i1, i2⟩, fun cc => ?_, fun cc => ?_⟩
  · replace h := h.1 cc
    refine r_iloadn (q := 36) DM_X3_firstOpenSeat_35 rfl rfl ?_
    exact r_ret (v := some (.inl x1)) ⟨DM_X3_firstOpenSeat_36, Or.inl rfl⟩ h
  · replace h := h.2 cc
    refine r_aloadn (q := 13) DM_X3_firstOpenSeat_12 rfl rfl ?_
    refine r_getR (q := 16) (r := 44) DM_X3_firstOpenSeat_13 rfl fRX3_18 sh_41 rfl ?_
    refine r_iloadn (q := 17) DM_X3_firstOpenSeat_16 rfl rfl ?_
    refine r_iald (q := 18) DM_X3_firstOpenSeat_17 rfl sh_44 (by decide) ⟨h.1, ?_⟩
    have i3 := h.1
    replace h := h.2
    refine r_aloadn (q := 19) DM_X3_firstOpenSeat_18 rfl rfl ?_
    refine r_getR (q := 22) (r := 44) DM_X3_firstOpenSeat_19 rfl fRX3_18 sh_41 rfl ?_
    refine r_iloadn (q := 23) DM_X3_firstOpenSeat_22 rfl rfl ?_
    refine r_iald (q := 24) DM_X3_firstOpenSeat_23 rfl sh_44 (by decide) ⟨h.1, ?_⟩
    have i4 := h.1
    replace h := h.2
    have i5 := h.1
    replace h := h.2
    have i6 := h.1
    replace h := h.2
    refine r_icge (q := 27) (t := 29) DM_X3_firstOpenSeat_24 rfl (by decide) ⟨⟨i5, i6⟩, fun cc => ?_, fun cc => ?_⟩
    · replace h := h.1 cc
      refine v_iinc (q := 32) (ls' := [some (.inr 41), some (.inl x1), some (.inl (x2 + 1))]) DM_X3_firstOpenSeat_29 rfl rfl (by decide) rfl ?_
      refine r_goto (q := 4) DM_X3_firstOpenSeat_32 (by decide) ?_
      exact h
    · replace h := h.2 cc
      refine r_iloadn (q := 28) DM_X3_firstOpenSeat_27 rfl rfl ?_
      refine v_istoren (q := 29) (ls' := [some (.inr 41), some (.inl x2), some (.inl x2)]) DM_X3_firstOpenSeat_28 rfl (by decide) rfl ?_
      refine v_iinc (q := 32) (ls' := [some (.inr 41), some (.inl x2), some (.inl (x2 + 1))]) DM_X3_firstOpenSeat_29 rfl rfl (by decide) rfl ?_
      refine r_goto (q := 4) DM_X3_firstOpenSeat_32 (by decide) ?_
      exact h
set_option maxRecDepth 20000 in
theorem s_X3_seatOneByOne {E : Ex} {μ : Mem} {Q : Option Vl → Mem → Prop} {x2 x3 x4 : Int}  {d : Nat} (hd : 1 ≤ d) (h : inR x4 ∧ inR (μ 41 2) ∧ (x4 < (μ 41 2) → inR x2 ∧ inR (μ 41 1) ∧ (x2 < (μ 41 1) → Cl E 0 M_X3_firstOpenSeat [.inr 41] μ (fun vv μ5 => ∃ v6, vv = some (.inl v6) ∧ (0 ≤ v6 ∧ v6 < 4) ∧ Gg E (d + 1) M_X3_seatOneByOne 60 [some (.inr 41), some (.inr 4), some (.inl x2), some (.inl x3), some (.inl x4), some (.inl v6), some (.inl (μ5 44 v6)), some (.inl 0), none] [] μ5 Q)) ∧ (¬ x2 < (μ 41 1) → ∀ μ8 : Mem, μ8 = up μ 41 2 x4 → ((0 : Int) ≤ 0 ∧ (0 : Int) ≤ 0 ∧ (0 : Int) ≤ (μ8 41 1) ∧ 0 + (μ8 41 1) ≤ 6 ∧ 0 + (μ8 41 1) ≤ 6) ∧ ∀ μ9 : Mem, μ9 = cpm μ8 43 0 42 0 (μ8 41 1) → Q none μ9)) ∧ (¬ x4 < (μ 41 2) → Q none μ)) : Cl E (d + 1) M_X3_seatOneByOne [.inr 41, .inr 4, .inl x2, .inl x3, .inl x4] μ Q := by
  show Gg E (d + 1) M_X3_seatOneByOne 0 [some (.inr 41), some (.inr 4), some (.inl x2), some (.inl x3), some (.inl x4), none, none, none, none] [] μ Q
  refine r_iload (q := 2) DM_X3_seatOneByOne_0 rfl rfl ?_
  refine r_aloadn (q := 3) DM_X3_seatOneByOne_2 rfl rfl ?_
  refine v_getI (q := 6) (ji := 2) DM_X3_seatOneByOne_3 rfl fRX3_30 sh_41 rfl rfl ?_
  have i1 := h.1
  replace h := h.2
  have i2 := h.1
  replace h := h.2
  refine r_iclt (q := 9) (t := 10) DM_X3_seatOneByOne_6 rfl (by decide) ⟨⟨i1, i2⟩, fun cc => ?_, fun cc => ?_⟩
  · replace h := h.1 cc
    refine r_iloadn (q := 11) DM_X3_seatOneByOne_10 rfl rfl ?_
    refine r_aloadn (q := 12) DM_X3_seatOneByOne_11 rfl rfl ?_
    refine v_getI (q := 15) (ji := 1) DM_X3_seatOneByOne_12 rfl fRX3_25 sh_41 rfl rfl ?_
    have i3 := h.1
    replace h := h.2
    have i4 := h.1
    replace h := h.2
    refine r_iclt (q := 18) (t := 42) DM_X3_seatOneByOne_15 rfl (by decide) ⟨⟨i3, i4⟩, fun cc => ?_, fun cc => ?_⟩
    · replace h := h.1 cc
      refine r_aloadn (q := 43) DM_X3_seatOneByOne_42 rfl rfl ?_
      refine r_callVi [] (q := 46) DM_X3_seatOneByOne_43 rfl kM_X3_firstOpenSeat lRX3_72 sh_41 rfl rfl (by omega) (Nat.le_of_ble_eq_true rfl) rfl (Cl.imp h (fun vv μ5 h => ?_))
      obtain ⟨v6, hv, h⟩ := h
      refine ⟨v6, hv, ?_⟩
      refine v_istore (q := 48) (ls' := [some (.inr 41), some (.inr 4), some (.inl x2), some (.inl x3), some (.inl x4), some (.inl v6), none, none, none]) DM_X3_seatOneByOne_46 rfl (by decide) rfl ?_
      refine r_aloadn (q := 49) DM_X3_seatOneByOne_48 rfl rfl ?_
      refine r_getR (q := 52) (r := 44) DM_X3_seatOneByOne_49 rfl fRX3_18 sh_41 rfl ?_
      refine r_iload (q := 54) DM_X3_seatOneByOne_52 rfl rfl ?_
      refine r_iald (q := 55) DM_X3_seatOneByOne_54 rfl sh_44 (by decide) ⟨h.1, ?_⟩
      have i7 := h.1
      replace h := h.2
      refine v_istore (q := 57) (ls' := [some (.inr 41), some (.inr 4), some (.inl x2), some (.inl x3), some (.inl x4), some (.inl v6), some (.inl (μ5 44 v6)), none, none]) DM_X3_seatOneByOne_55 rfl (by decide) rfl ?_
      refine r_iconst (q := 58) (n := 0) DM_X3_seatOneByOne_57 rfl ?_
      refine v_istore (q := 60) (ls' := [some (.inr 41), some (.inr 4), some (.inl x2), some (.inl x3), some (.inl x4), some (.inl v6), some (.inl (μ5 44 v6)), some (.inl 0), none]) DM_X3_seatOneByOne_58 rfl (by decide) rfl ?_
      exact h
    · replace h := h.2 cc
      refine r_aloadn (q := 19) DM_X3_seatOneByOne_18 rfl rfl ?_
      refine r_iload (q := 21) DM_X3_seatOneByOne_19 rfl rfl ?_
      refine v_put (q := 24) (ji := 2) DM_X3_seatOneByOne_21 rfl pfRX3_30 sh_41 rfl rfl (Or.inl rfl) (fun μ8 e8 => ?_)
      replace h := h μ8 e8
      refine r_aloadn (q := 25) DM_X3_seatOneByOne_24 rfl rfl ?_
      refine r_getR (q := 28) (r := 43) DM_X3_seatOneByOne_25 rfl fRX3_15 sh_41 rfl ?_
      refine r_iconst (q := 29) (n := 0) DM_X3_seatOneByOne_28 rfl ?_
      refine r_aloadn (q := 30) DM_X3_seatOneByOne_29 rfl rfl ?_
      refine r_getR (q := 33) (r := 42) DM_X3_seatOneByOne_30 rfl fRX3_9 sh_41 rfl ?_
      refine r_iconst (q := 34) (n := 0) DM_X3_seatOneByOne_33 rfl ?_
      refine r_aloadn (q := 35) DM_X3_seatOneByOne_34 rfl rfl ?_
      refine v_getI (q := 38) (ji := 1) DM_X3_seatOneByOne_35 rfl fRX3_25 sh_41 rfl rfl ?_
      refine v_acpy (q := 41) DM_X3_seatOneByOne_38 rfl lRX3_66 acp_na acp_st acp_in sh_43 sh_42 ⟨by decide, (by decide)⟩ ⟨by decide, (by decide)⟩ (by omega) (Nat.le_of_ble_eq_true rfl) ⟨h.1, fun μ9 e9 => ?_⟩
      replace h := h.2 μ9 e9
      exact r_ret (v := none) ⟨DM_X3_seatOneByOne_41, rfl⟩ h
  · replace h := h.2 cc
    exact r_ret (v := none) ⟨DM_X3_seatOneByOne_9, rfl⟩ h
set_option maxRecDepth 20000 in
theorem s_X3_seatOneByOne_60 {E : Ex} {μ : Mem} {Q : Option Vl → Mem → Prop} {x2 x3 x4 x5 x6 x7 : Int}  {d : Nat} (hd : 1 ≤ d) (h : inR x7 ∧ inR (μ 4 1) ∧ (x7 ≥ (μ 4 1) → Q none μ) ∧ (¬ x7 ≥ (μ 4 1) → inR (jand (jshr x3 x7) 1) ∧ ((jand (jshr x3 x7) 1) ≠ 1 → Gg E (d + 1) M_X3_seatOneByOne 60 [some (.inr 41), some (.inr 4), some (.inl x2), some (.inl x3), some (.inl x4), some (.inl x5), some (.inl x6), some (.inl (x7 + 1)), none] [] μ Q) ∧ ((jand (jshr x3 x7) 1) = 1 → (0 ≤ x2 ∧ x2 < 6) ∧ ∀ μ4 : Mem, μ4 = up μ 43 x2 x7 → (0 ≤ x7 ∧ x7 < 6) ∧ inR x6 ∧ inR (μ4 (4 + 7) x7) ∧ (x6 ≥ (μ4 (4 + 7) x7) → Cl E d M_X3_seatOneByOne [.inr 41, .inr 4, .inl (x2 + 1), .inl (jand x3 (jxor (jshl 1 x7) (-1))), .inl (x4 + (μ4 (4 + 7) x7))] μ4 (fun vv μ9 => vv = none ∧ Gg E (d + 1) M_X3_seatOneByOne 60 [some (.inr 41), some (.inr 4), some (.inl x2), some (.inl x3), some (.inl x4), some (.inl x5), some (.inl x6), some (.inl (x7 + 1)), none] [] μ9 Q)) ∧ (¬ x6 ≥ (μ4 (4 + 7) x7) → (0 ≤ x5 ∧ x5 < 4) ∧ ∀ μ11 : Mem, μ11 = up μ4 44 x5 (x6 + (μ4 (4 + 6) x7)) → Cl E d M_X3_seatOneByOne [.inr 41, .inr 4, .inl (x2 + 1), .inl (jand x3 (jxor (jshl 1 x7) (-1))), .inl (x4 + x6)] μ11 (fun vv μ13 => vv = none ∧ ∀ μ15 : Mem, μ15 = up μ13 44 x5 x6 → Gg E (d + 1) M_X3_seatOneByOne 60 [some (.inr 41), some (.inr 4), some (.inl x2), some (.inl x3), some (.inl x4), some (.inl x5), some (.inl x6), some (.inl (x7 + 1)), none] [] μ15 Q))))) : Gg E (d + 1) M_X3_seatOneByOne 60 [some (.inr 41), some (.inr 4), some (.inl x2), some (.inl x3), some (.inl x4), some (.inl x5), some (.inl x6), some (.inl x7), none] [] μ Q := by
  refine r_iload (q := 62) DM_X3_seatOneByOne_60 rfl rfl ?_
  refine r_aloadn (q := 63) DM_X3_seatOneByOne_62 rfl rfl ?_
  refine v_getI (q := 66) (ji := 1) DM_X3_seatOneByOne_63 rfl fRX3_33 (co0 cK_4) rfl rfl ?_
  have i1 := h.1
  replace h := h.2
  have i2 := h.1
  replace h := h.2
  refine r_icge (q := 69) (t := 179) DM_X3_seatOneByOne_66 rfl (by decide) ⟨⟨i1, i2⟩, fun cc => ?_, fun cc => ?_⟩
  · replace h := h.1 cc
    exact r_ret (v := none) ⟨DM_X3_seatOneByOne_179, rfl⟩ h
  · replace h := h.2 cc
    refine r_iloadn (q := 70) DM_X3_seatOneByOne_69 rfl rfl ?_
    refine r_iload (q := 72) DM_X3_seatOneByOne_70 rfl rfl ?_
    refine r_ishr (q := 73) DM_X3_seatOneByOne_72 rfl ?_
    refine r_iconst (q := 74) (n := 1) DM_X3_seatOneByOne_73 rfl ?_
    refine r_iand (q := 75) DM_X3_seatOneByOne_74 rfl ?_
    refine r_iconst (q := 76) (n := 1) DM_X3_seatOneByOne_75 rfl ?_
    have i3 := h.1
    replace h := h.2
    refine r_icne (q := 79) (t := 173) DM_X3_seatOneByOne_76 rfl (by decide) ⟨⟨i3, (by decide)⟩, fun cc => ?_, fun cc => ?_⟩
    · replace h := h.1 cc
      refine v_iinc (q := 176) (ls' := [some (.inr 41), some (.inr 4), some (.inl x2), some (.inl x3), some (.inl x4), some (.inl x5), some (.inl x6), some (.inl (x7 + 1)), none]) DM_X3_seatOneByOne_173 rfl rfl (by decide) rfl ?_
      refine r_goto (q := 60) DM_X3_seatOneByOne_176 (by decide) ?_
      exact h
    · replace h := h.2 cc
      refine r_aloadn (q := 80) DM_X3_seatOneByOne_79 rfl rfl ?_
      refine r_getR (q := 83) (r := 43) DM_X3_seatOneByOne_80 rfl fRX3_15 sh_41 rfl ?_
      refine r_iloadn (q := 84) DM_X3_seatOneByOne_83 rfl rfl ?_
      refine r_iload (q := 86) DM_X3_seatOneByOne_84 rfl rfl ?_
      refine v_iast (q := 87) DM_X3_seatOneByOne_86 rfl sh_43 (by decide) ⟨h.1, fun μ4 e4 => ?_⟩
      have i5 := h.1
      replace h := h.2 μ4 e4
      refine r_iloadn (q := 88) DM_X3_seatOneByOne_87 rfl rfl ?_
      refine r_iconst (q := 89) (n := 1) DM_X3_seatOneByOne_88 rfl ?_
      refine r_iload (q := 91) DM_X3_seatOneByOne_89 rfl rfl ?_
      refine r_ishl (q := 92) DM_X3_seatOneByOne_91 rfl ?_
      refine r_iconst (q := 93) (n := (-1)) DM_X3_seatOneByOne_92 rfl ?_
      refine r_ixor (q := 94) DM_X3_seatOneByOne_93 rfl ?_
      refine r_iand (q := 95) DM_X3_seatOneByOne_94 rfl ?_
      refine v_istore (q := 97) (ls' := [some (.inr 41), some (.inr 4), some (.inl x2), some (.inl x3), some (.inl x4), some (.inl x5), some (.inl x6), some (.inl x7), some (.inl (jand x3 (jxor (jshl 1 x7) (-1))))]) DM_X3_seatOneByOne_95 rfl (by decide) rfl ?_
      refine r_iload (q := 99) DM_X3_seatOneByOne_97 rfl rfl ?_
      refine r_aloadn (q := 100) DM_X3_seatOneByOne_99 rfl rfl ?_
      refine r_getR (q := 103) (r := 4 + 7) DM_X3_seatOneByOne_100 rfl fRX3_49 (co0 cK_4) rfl ?_
      refine r_iload (q := 105) DM_X3_seatOneByOne_103 rfl rfl ?_
      refine r_iald (q := 106) DM_X3_seatOneByOne_105 rfl (co7 cK_4) (by decide) ⟨h.1, ?_⟩
      have i6 := h.1
      replace h := h.2
      have i7 := h.1
      replace h := h.2
      have i8 := h.1
      replace h := h.2
      refine r_icge (q := 109) (t := 153) DM_X3_seatOneByOne_106 rfl (by decide) ⟨⟨i7, i8⟩, fun cc => ?_, fun cc => ?_⟩
      · replace h := h.1 cc
        refine r_aloadn (q := 154) DM_X3_seatOneByOne_153 rfl rfl ?_
        refine r_aloadn (q := 155) DM_X3_seatOneByOne_154 rfl rfl ?_
        refine r_iloadn (q := 156) DM_X3_seatOneByOne_155 rfl rfl ?_
        refine r_iconst (q := 157) (n := 1) DM_X3_seatOneByOne_156 rfl ?_
        refine r_iadd (q := 158) DM_X3_seatOneByOne_157 rfl ?_
        refine r_iload (q := 160) DM_X3_seatOneByOne_158 rfl rfl ?_
        refine r_iload (q := 162) DM_X3_seatOneByOne_160 rfl rfl ?_
        refine r_aloadn (q := 163) DM_X3_seatOneByOne_162 rfl rfl ?_
        refine r_getR (q := 166) (r := 4 + 7) DM_X3_seatOneByOne_163 rfl fRX3_49 (co0 cK_4) rfl ?_
        refine r_iload (q := 168) DM_X3_seatOneByOne_166 rfl rfl ?_
        refine r_iald (q := 169) DM_X3_seatOneByOne_168 rfl (co7 cK_4) (by decide) ⟨i6, ?_⟩
        refine r_iadd (q := 170) DM_X3_seatOneByOne_169 rfl ?_
        refine r_callSv [.inr 41, .inr 4, .inl (x2 + 1), .inl (jand x3 (jxor (jshl 1 x7) (-1))), .inl (x4 + (μ4 (4 + 7) x7))] (q := 173) DM_X3_seatOneByOne_170 rfl kM_X3_seatOneByOne lRX3_52 rfl (by omega) (Nat.le_of_ble_eq_true rfl) rfl (Cl.imp h (fun vv μ9 h => ?_))
        obtain ⟨hv, h⟩ := h
        refine ⟨hv, ?_⟩
        refine v_iinc (q := 176) (ls' := [some (.inr 41), some (.inr 4), some (.inl x2), some (.inl x3), some (.inl x4), some (.inl x5), some (.inl x6), some (.inl (x7 + 1)), some (.inl (jand x3 (jxor (jshl 1 x7) (-1))))]) DM_X3_seatOneByOne_173 rfl rfl (by decide) rfl ?_
        refine r_goto (q := 60) DM_X3_seatOneByOne_176 (by decide) ?_
        exact Gg.weak [true, true, true, true, true, true, true, true, false] h
      · replace h := h.2 cc
        refine r_aloadn (q := 110) DM_X3_seatOneByOne_109 rfl rfl ?_
        refine r_getR (q := 113) (r := 44) DM_X3_seatOneByOne_110 rfl fRX3_18 sh_41 rfl ?_
        refine r_iload (q := 115) DM_X3_seatOneByOne_113 rfl rfl ?_
        refine r_iload (q := 117) DM_X3_seatOneByOne_115 rfl rfl ?_
        refine r_aloadn (q := 118) DM_X3_seatOneByOne_117 rfl rfl ?_
        refine r_getR (q := 121) (r := 4 + 6) DM_X3_seatOneByOne_118 rfl fRX3_76 (co0 cK_4) rfl ?_
        refine r_iload (q := 123) DM_X3_seatOneByOne_121 rfl rfl ?_
        refine r_iald (q := 124) DM_X3_seatOneByOne_123 rfl (co6 cK_4) (by decide) ⟨i6, ?_⟩
        refine r_iadd (q := 125) DM_X3_seatOneByOne_124 rfl ?_
        refine v_iast (q := 126) DM_X3_seatOneByOne_125 rfl sh_44 (by decide) ⟨h.1, fun μ11 e11 => ?_⟩
        have i12 := h.1
        replace h := h.2 μ11 e11
        refine r_aloadn (q := 127) DM_X3_seatOneByOne_126 rfl rfl ?_
        refine r_aloadn (q := 128) DM_X3_seatOneByOne_127 rfl rfl ?_
        refine r_iloadn (q := 129) DM_X3_seatOneByOne_128 rfl rfl ?_
        refine r_iconst (q := 130) (n := 1) DM_X3_seatOneByOne_129 rfl ?_
        refine r_iadd (q := 131) DM_X3_seatOneByOne_130 rfl ?_
        refine r_iload (q := 133) DM_X3_seatOneByOne_131 rfl rfl ?_
        refine r_iload (q := 135) DM_X3_seatOneByOne_133 rfl rfl ?_
        refine r_iload (q := 137) DM_X3_seatOneByOne_135 rfl rfl ?_
        refine r_iadd (q := 138) DM_X3_seatOneByOne_137 rfl ?_
        refine r_callSv [.inr 41, .inr 4, .inl (x2 + 1), .inl (jand x3 (jxor (jshl 1 x7) (-1))), .inl (x4 + x6)] (q := 141) DM_X3_seatOneByOne_138 rfl kM_X3_seatOneByOne lRX3_52 rfl (by omega) (Nat.le_of_ble_eq_true rfl) rfl (Cl.imp h (fun vv μ13 h => ?_))
        obtain ⟨hv, h⟩ := h
        refine ⟨hv, ?_⟩
        refine r_aloadn (q := 142) DM_X3_seatOneByOne_141 rfl rfl ?_
        refine r_getR (q := 145) (r := 44) DM_X3_seatOneByOne_142 rfl fRX3_18 sh_41 rfl ?_
        refine r_iload (q := 147) DM_X3_seatOneByOne_145 rfl rfl ?_
        refine r_iload (q := 149) DM_X3_seatOneByOne_147 rfl rfl ?_
        refine v_iast (q := 150) DM_X3_seatOneByOne_149 rfl sh_44 (by decide) ⟨i12, fun μ15 e15 => ?_⟩
        replace h := h μ15 e15
        refine r_goto (q := 173) DM_X3_seatOneByOne_150 (by decide) ?_
        refine v_iinc (q := 176) (ls' := [some (.inr 41), some (.inr 4), some (.inl x2), some (.inl x3), some (.inl x4), some (.inl x5), some (.inl x6), some (.inl (x7 + 1)), some (.inl (jand x3 (jxor (jshl 1 x7) (-1))))]) DM_X3_seatOneByOne_173 rfl rfl (by decide) rfl ?_
        refine r_goto (q := 60) DM_X3_seatOneByOne_176 (by decide) ?_
        exact Gg.weak [true, true, true, true, true, true, true, true, false] h
theorem bit_clr : ∀ a, a < 64 → ∀ l, l < 6 → a.testBit l = true → jand ((a : Nat) : Int) (jxor (jshl 1 ((l : Nat) : Int)) (-1)) = ((a - 2 ^ l : Nat) : Int) := by decide +kernel
theorem bit_clr2 : ∀ a, a < 64 → ∀ l, l < 6 → a.testBit l = true → ∀ i, i < 6 → (a - 2 ^ l).testBit i = (a.testBit i && decide (i ≠ l)) := by decide +kernel
def PS (v : CV) (μ : Mem) : Prop := μ 4 1 = v 0 1 ∧ μ (4 + 7) = v 7 ∧ μ (4 + 6) = v 6 ∧ μ 41 1 = nW v ∧ μ 41 5 = v 0 2
section P86
variable {E : Ex} {v : CV} {O : Int → Int} {u : Int} {μ : Mem} {Q : Option Vl → Mem → Prop}
theorem k_X3_firstOpenSeat (hS : 1 ≤ μ 41 5 ∧ μ 41 5 ≤ 4) (hO : ∀ i, 0 ≤ i → i < μ 41 5 → inR (μ 44 i)) (h : Q (some (.inl (fos (μ 44) (μ 41 5)))) μ) : Cl E 0 M_X3_firstOpenSeat [.inr 41] μ Q := by
  refine s_X3_firstOpenSeat ?_
  have f1 : fos (μ 44) 1 = 0 := by
    have := fos_ok (O := μ 44) (S := 1) (by decide)
    omega
  suffices hh : Gg E 0 M_X3_firstOpenSeat 4 [some (.inr 41), some (.inl (fos (μ 44) 1)), some (.inl 1)] [] μ Q by rwa [f1] at hh
  refine up_ind (N := μ 41 5) (P := fun c => Gg E 0 M_X3_firstOpenSeat 4 [some (.inr 41), some (.inl (fos (μ 44) c)), some (.inl c)] [] μ Q) 1 hS.1 ?_ (fun c c0 c1 ih => ?_)
  · exact s_X3_firstOpenSeat_4 ⟨by omega, by omega, fun _ => h, fun z => absurd (Int.le_refl _) z⟩
  · have f := fos_ok (O := μ 44) (S := c) c0
    have e : fos (μ 44) (c + 1) = if μ 44 c < μ 44 (fos (μ 44) c) then c else fos (μ 44) c := foldI_succ (by omega)
    rw [e] at ih
    refine s_X3_firstOpenSeat_4 ⟨by omega, by omega, fun z => absurd z (by omega), fun _ => ⟨by omega, by omega, hO c (by omega) c1, hO _ (by omega) (by omega), fun z => ?_, fun z => ?_⟩⟩
    · rwa [if_neg (by omega)] at ih
    · rwa [if_pos (by omega)] at ih
theorem blk_iv {B y q : Int} {m : Nat} (hP : 0 < B ^ m) (h1 : q * B ^ m ≤ y) (h2 : y < (q + 1) * B ^ m) : y / B ^ m = q := by
  have a := Int.le_ediv_of_mul_le hP h1
  have b := Int.ediv_lt_of_lt_mul hP h2
  omega
theorem k_dfs (hV : VC v) (hS : 1 ≤ v 0 2 ∧ v 0 2 ≤ 4) (hO : GI v O) (hu : 0 ≤ u ∧ u ≤ 100000) : ∀ (r : Nat) (p q sum : Int) (M : Nat) (μ : Mem) (d : Nat) (Q : Option Vl → Mem → Prop), p + r = nW v → 0 ≤ p → 0 ≤ q → 1 + r ≤ d → PS v μ → M < 64 →
    (∀ z, 0 ≤ z → z / nW v ^ r = q → (∀ i, 0 ≤ i → i < p → μ 43 i = lin v z i) ∧ (∀ i j : Nat, r ≤ i → i < j → (j : Int) < nW v → dgt (nW v) z i ≠ dgt (nW v) z j) ∧ gs v O u z p = (μ 44, sum) ∧ ∀ a, 0 ≤ a → a < 6 → (M.testBit a.toNat = true ↔ (a < v 0 1 ∧ wf v a = true ∧ ∀ i, 0 ≤ i → i < p → lin v z i ≠ a))) →
    WS v O u 1000000 (q * nW v ^ r) (μ 41 2) (μ 42) →
    (∀ μ1 : Mem, (∀ k, k ≠ 41 → k ≠ 42 → k ≠ 43 → μ1 k = μ k) → (∀ i, i ≠ 2 → μ1 41 i = μ 41 i) → (∀ i, i < p → μ1 43 i = μ 43 i) → WS v O u 1000000 ((q + 1) * nW v ^ r) (μ1 41 2) (μ1 42) → Q none μ1) →
    Cl E (d + 1) M_X3_seatOneByOne [.inr 41, .inr 4, .inl p, .inl (M : Int), .inl sum] μ Q := by
  have n6 := nW_rng hV.2.1
  have N6 := hV.2.1
  have wr : ∀ z, u ≤ (gs v O u z (nW v)).2 ∧ (gs v O u z (nW v)).2 ≤ u + 600 := fun z => by
    have := gs_rng (u := u) (z := z) hV hS.1 hO (nW v).toNat (by omega)
    rw [show (((nW v).toNat : Nat) : Int) = nW v by omega] at this
    omega
  have Lr : ∀ {c L : Int} {b : Int → Int}, WS v O u 1000000 c L b → inR L := fun {c L b} h => by
    rcases h with q | ⟨z, -, -, q, -⟩
    · omega
    · have := wr z; omega
  intro r
  induction r with
  | zero =>
    intro p q sum M μ d Q hp p0 q0 hd ps hM pre hw hQ
    obtain ⟨s1, s2, s3, s4, s5⟩ := ps
    rw [Int.pow_zero, Int.mul_one] at hw hQ
    have pn : p = nW v := by omega
    obtain ⟨a1, a2, a3, a4⟩ := pre q q0 (by rw [Int.pow_zero, Int.ediv_one])
    have es : (gs v O u q (nW v)).2 = sum := by rw [← pn, a3]
    have sr := wr q
    refine s_X3_seatOneByOne (by omega) ⟨by omega, Lr hw, fun lt => ⟨by omega, by omega, fun z => absurd z (by omega), fun _ μ8 e8 => ?_⟩, fun nl => hQ μ (fun _ _ _ _ => rfl) (fun _ _ => rfl) (fun _ _ => rfl) (hw.skip (fun y y0 y1 y2 _ => ?_) (by omega))⟩
    · have f1 : μ8 41 1 = nW v := by rw [e8, up_off (Or.inr (by decide))]; exact s4
      rw [f1]
      refine ⟨by omega, fun μ9 e9 => hQ μ9 (fun k k1 k2 k3 => by rw [e9, cpm_ne k2, e8, up_ne k1]) (fun i hi => by rw [e9, cpm_ne (by decide), e8, up_off (Or.inr hi)]) (fun i hi => by rw [e9, cpm_ne (by decide), e8, up_ne (by decide)]) ?_⟩
      rw [show μ9 41 2 = (gs v O u q (nW v)).2 by rw [e9, cpm_ne (by decide), e8, up_self, es]]
      refine hw.leaf q0 (fun i j ij hj => a2 i j (by omega) ij hj) (Or.inr (by omega)) (fun z => by have := wr z; omega) (fun k k0 k1 => ?_)
      rw [e9, cpm_in ⟨k0, by omega⟩, e8, up_ne (by decide)]
      rw [show (0 : Int) + (k - 0) = k by omega]
      exact a1 k k0 (by omega)
    · have : y = q := by omega
      rw [this, es]
      omega
  | succ r ihr =>
    intro p q sum M μ d Q hp p0 q0 hd ps hM pre hw hQ
    obtain ⟨s1, s2, s3, s4, s5⟩ := id ps
    have n0 : 0 < nW v := by omega
    have P1 : 0 < nW v ^ (r + 1) := Int.pow_pos n0
    have P0 : 0 < nW v ^ r := Int.pow_pos n0
    have pn : (nW v - 1 - p).toNat = r := by omega
    have z00 : (0 : Int) ≤ q * nW v ^ (r + 1) := Int.mul_nonneg q0 (Int.le_of_lt P1)
    obtain ⟨a1, a2, a3, a4⟩ := pre (q * nW v ^ (r + 1)) z00 (Int.mul_ediv_cancel q (by omega))
    have sr := gs_rng (u := u) (z := q * nW v ^ (r + 1)) hV hS.1 hO p.toNat (by omega)
    rw [show ((p.toNat : Nat) : Int) = p by omega, a3] at sr
    replace sr : GI v (μ 44) ∧ u ≤ sum ∧ sum ≤ u + 99 * p := sr
    have Ob : ∀ i, 0 ≤ i → i < v 0 2 → 0 ≤ μ 44 i ∧ μ 44 i ≤ 3000 := sr.1
    have fo := fos_ok (O := μ 44) hS.1
    have far := Ob _ fo.1.1 fo.1.2
    refine s_X3_seatOneByOne (by omega) ⟨by omega, Lr hw, fun lt => ⟨by omega, by omega, fun _ => k_X3_firstOpenSeat (by omega) (fun i i0 i1 => by have := Ob i i0 (by omega); omega) ⟨_, rfl, ?_⟩, fun z => absurd (by omega) z⟩, fun nl => hQ μ (fun _ _ _ _ => rfl) (fun _ _ => rfl) (fun _ _ => rfl) (hw.skip (fun y y0 y1 y2 _ => ?_) ?_)⟩
    · rw [s5]
      obtain ⟨a, ea⟩ : ∃ a, a = fos (μ 44) (v 0 2) := ⟨_, rfl⟩
      rw [← ea] at fo far ⊢
      obtain ⟨dy, edy⟩ : ∃ dy, dy = μ 44 a := ⟨_, rfl⟩
      rw [← edy] at far ⊢
      refine ⟨by omega, ?_⟩
      suffices hh : ∀ μ' : Mem, ((∀ k, k ≠ 41 → k ≠ 42 → k ≠ 43 → μ' k = μ k) ∧ (∀ i, i ≠ 2 → μ' 41 i = μ 41 i) ∧ (∀ i, i < p → μ' 43 i = μ 43 i)) → WS v O u 1000000 ((q * nW v + cntI (wf v) 0) * nW v ^ r) (μ' 41 2) (μ' 42) → Gg E (d + 1) M_X3_seatOneByOne 60 [some (.inr 41), some (.inr 4), some (.inl p), some (.inl (M : Int)), some (.inl sum), some (.inl a), some (.inl dy), some (.inl 0), none] [] μ' Q by
        refine hh μ ⟨fun _ _ _ _ => rfl, fun _ _ => rfl, fun _ _ => rfl⟩ ?_
        rw [cntI_0, Int.add_zero, Int.mul_assoc, ← Int.pow_succ']
        exact hw
      refine up_ind (N := v 0 1) (P := fun c => ∀ μ' : Mem, ((∀ k, k ≠ 41 → k ≠ 42 → k ≠ 43 → μ' k = μ k) ∧ (∀ i, i ≠ 2 → μ' 41 i = μ 41 i) ∧ (∀ i, i < p → μ' 43 i = μ 43 i)) → WS v O u 1000000 ((q * nW v + cntI (wf v) c) * nW v ^ r) (μ' 41 2) (μ' 42) → Gg E (d + 1) M_X3_seatOneByOne 60 [some (.inr 41), some (.inr 4), some (.inl p), some (.inl (M : Int)), some (.inl sum), some (.inl a), some (.inl dy), some (.inl c), none] [] μ' Q) 0 (by omega) (fun μ' ⟨k1, k2, k3⟩ w1 => ?_) (fun c c0 c1 ih μ' ⟨k1, k2, k3⟩ w1 => ?_)
      · have e1 : μ' 4 1 = v 0 1 := by rw [k1 4 (by decide) (by decide) (by decide)]; exact s1
        refine s_X3_seatOneByOne_60 (by omega) ⟨by omega, by omega, fun _ => hQ μ' k1 k2 k3 ?_, fun z => absurd (by omega) z⟩
        have e : (q * nW v + cntI (wf v) (v 0 1)) * nW v ^ r = (q + 1) * nW v ^ (r + 1) := by
          rw [Int.pow_succ', ← Int.mul_assoc, Int.add_mul q 1, Int.one_mul]; rfl
        rwa [e] at w1
      · have e1 : μ' 4 1 = v 0 1 := by rw [k1 4 (by decide) (by decide) (by decide)]; exact s1
        have bt : jand (jshr (M : Int) c) 1 = bi (M.testBit c.toNat) := by
          have := bit_ask M (by omega) c.toNat (by omega)
          rwa [Int.toNat_of_nonneg c0] at this
        have lr : wf v c = true → 0 ≤ cntI (wf v) c ∧ cntI (wf v) c < nW v := fun hf => ⟨(cntI_rng c c0).1, cnt_up c0 c1 hf⟩
        refine s_X3_seatOneByOne_60 (by omega) ⟨by omega, by omega, fun z => absurd z (by omega), fun _ => ?_⟩
        rw [bt]
        refine ⟨by cases M.testBit c.toNat <;> decide, fun ne => ?_, fun eq => ?_⟩
        · have bf : M.testBit c.toNat = false := by
            cases hb : M.testBit c.toNat
            · rfl
            · rw [hb] at ne; exact absurd rfl ne
          refine ih μ' ⟨k1, k2, k3⟩ ?_
          rw [cntI_succ c0]
          cases hf : wf v c
          · rw [show bi false = 0 from rfl, Int.add_zero]; exact w1
          · have l := lr hf
            rw [show bi true = 1 from rfl]
            refine w1.skip (fun y y0 y1 y2 py => ?_) (Int.mul_le_mul_of_nonneg_right (by omega) (Int.le_of_lt P0))
            have yb : y / nW v ^ r = q * nW v + cntI (wf v) c := blk_iv P0 y1 (by rw [Int.add_assoc]; exact y2)
            obtain ⟨u1, u2⟩ := blk_up n0 l.1 l.2 yb
            obtain ⟨b1, b2, b3, b4⟩ := pre y y0 u1
            have hno : M.testBit c.toNat = true := (b4 c c0 (by omega)).mpr ⟨c1, hf, fun i i0 i1 e => by
              have lo := (lin_ok (v := v) (z := y) N6.1 (k := i) i0 (by omega)).2.2
              rw [e] at lo
              exact py r (nW v - 1 - i).toNat (by omega) (by omega) (by rw [u2, lo])⟩
            rw [bf] at hno
            exact absurd hno (by decide)
        · have bf : M.testBit c.toNat = true := by
            cases hb : M.testBit c.toNat
            · rw [hb] at eq; exact absurd eq (by decide)
            · rfl
          obtain ⟨-, hf, -⟩ := (a4 c c0 (by omega)).mp bf
          have l := lr hf
          have pc := hV.2.2.2.2.2 c c0 c1
          have lc := pc.2.2.2.1
          have tc := pc.2.2.1
          have mc : jand (M : Int) (jxor (jshl 1 c) (-1)) = ((M - 2 ^ c.toNat : Nat) : Int) := by
            have := bit_clr M hM c.toNat (by omega) bf
            rwa [Int.toNat_of_nonneg c0] at this
          have mt := bit_clr2 M hM c.toNat (by omega) bf
          rw [mc]
          refine ⟨by omega, fun μ4 e4 => ?_⟩
          have f7 : μ4 (4 + 7) c = v 7 c := by rw [e4, up_ne (by decide), k1 (4 + 7) (by decide) (by decide) (by decide), s2]
          have f6 : μ4 (4 + 6) c = v 6 c := by rw [e4, up_ne (by decide), k1 (4 + 6) (by decide) (by decide) (by decide), s3]
          have wl1 : wtL v (cntI (wf v) c) = c := wtL_rank c0 c1 hf
          have d' : ∃ d', d = d' + 1 := ⟨d - 1, by omega⟩
          obtain ⟨d', hd'⟩ := d'
          subst hd'
          -- what holds one deeper
          have pre' : ∀ (O' : Int → Int) (sum' : Int), gst v (μ 44, sum) c = (O', sum') → ∀ z, 0 ≤ z → z / nW v ^ r = q * nW v + cntI (wf v) c → (∀ i, 0 ≤ i → i < p + 1 → μ4 43 i = lin v z i) ∧ (∀ i j : Nat, r ≤ i → i < j → (j : Int) < nW v → dgt (nW v) z i ≠ dgt (nW v) z j) ∧ gs v O u z (p + 1) = (O', sum') ∧ ∀ a, 0 ≤ a → a < 6 → ((M - 2 ^ c.toNat).testBit a.toNat = true ↔ (a < v 0 1 ∧ wf v a = true ∧ ∀ i, 0 ≤ i → i < p + 1 → lin v z i ≠ a)) := by
            intro O' sum' hg z z0 z1
            obtain ⟨u1, u2⟩ := blk_up n0 l.1 l.2 z1
            obtain ⟨b1, b2, b3, b4⟩ := pre z z0 u1
            have lz : lin v z p = c := by unfold lin; rw [pn, u2, wl1]
            have un := ((b4 c c0 (by omega)).mp bf).2.2
            refine ⟨fun i i0 i1 => ?_, fun i j ri ij jn => ?_, by rw [gs_succ p0, b3, lz, hg], fun a' a0 a6 => ?_⟩
            · by_cases e : i = p
              · rw [e, lz, e4]; exact up_self
              · rw [e4, up_off (Or.inr e), k3 i (by omega)]; exact b1 i i0 (by omega)
            · by_cases e : i = r
              · intro hd
                rw [e, u2] at hd
                refine un (nW v - 1 - j) (by omega) (by omega) ?_
                unfold lin
                rw [show (nW v - 1 - (nW v - 1 - (j : Int))).toNat = j by omega, ← hd, wl1]
              · exact b2 i j (by omega) ij jn
            · rw [mt a'.toNat (by omega)]
              constructor
              · intro h
                rw [Bool.and_eq_true, decide_eq_true_eq] at h
                obtain ⟨h1, h2, h3⟩ := (b4 a' a0 a6).mp h.1
                refine ⟨h1, h2, fun i i0 i1 e => ?_⟩
                by_cases ei : i = p
                · rw [ei, lz] at e; exact h.2 (by rw [e])
                · exact h3 i i0 (by omega) e
              · intro ⟨h1, h2, h3⟩
                rw [Bool.and_eq_true, decide_eq_true_eq]
                refine ⟨(b4 a' a0 a6).mpr ⟨h1, h2, fun i i0 i1 => h3 i i0 (by omega)⟩, fun e => h3 p p0 (by omega) ?_⟩
                rw [lz]; omega
          have q' : 0 ≤ q * nW v + cntI (wf v) c := Int.add_nonneg (Int.mul_nonneg q0 n6.1) l.1
          have hM' : M - 2 ^ c.toNat < 64 := Nat.lt_of_le_of_lt (Nat.sub_le _ _) hM
          have cs : cntI (wf v) (c + 1) = cntI (wf v) c + 1 := by rw [cntI_succ c0, hf]; rfl
          have fO : fos (μ 44, sum).1 (v 0 2) = a := ea.symm
          rw [f7]
          refine ⟨by omega, by omega, by omega, fun ge => ?_, fun lt' => ⟨by omega, fun μ11 e11 => ?_⟩⟩
          · have hg : gst v (μ 44, sum) c = (μ4 44, sum + v 7 c) := by
              unfold gst
              rw [fO]
              show (if μ 44 a < v 7 c then _ else _) = _
              rw [if_neg (by omega), e4, up_ne (by decide), k1 44 (by decide) (by decide) (by decide)]
            refine ihr (p + 1) (q * nW v + cntI (wf v) c) (sum + v 7 c) (M - 2 ^ c.toNat) μ4 d' _ (by omega) (by omega) q' (by omega) ⟨?_, ?_, ?_, ?_, ?_⟩ hM' (pre' _ _ hg) ?_ (fun μ9 j1 j2 j3 w9 => ⟨rfl, ih μ9 ⟨fun k x y z => ?_, fun i hi => ?_, fun i hi => ?_⟩ ?_⟩)
            · rw [e4, up_ne (by decide)]; exact e1
            · rw [e4, up_ne (by decide), k1 (4 + 7) (by decide) (by decide) (by decide)]; exact s2
            · rw [e4, up_ne (by decide), k1 (4 + 6) (by decide) (by decide) (by decide)]; exact s3
            · rw [e4, up_ne (by decide), k2 1 (by decide)]; exact s4
            · rw [e4, up_ne (by decide), k2 5 (by decide)]; exact s5
            · rw [e4, up_ne (by decide), up_ne (by decide)]; exact w1
            · rw [j1 k x y z, e4, up_ne z, k1 k x y z]
            · rw [j2 i hi, e4, up_ne (by decide), k2 i hi]
            · rw [j3 i (by omega), e4, up_off (Or.inr (by omega)), k3 i hi]
            · rw [cs, ← Int.add_assoc]; exact w9
          · have g11 : ∀ k, k ≠ 43 → k ≠ 44 → μ11 k = μ' k := fun k x y => by rw [e11, up_ne y, e4, up_ne x]
            have hg : gst v (μ 44, sum) c = (μ11 44, sum + dy) := by
              unfold gst
              rw [fO]
              show (if μ 44 a < v 7 c then ((fun i => if i = a then μ 44 a + v 6 c else μ 44 i), sum + μ 44 a) else _) = _
              rw [if_pos (by omega), ← edy]
              congr 1
              funext i
              rw [e11, f6]
              by_cases e : i = a
              · rw [if_pos e, e, up_self]
              · rw [if_neg e, up_off (Or.inr e), e4, up_ne (by decide), k1 44 (by decide) (by decide) (by decide)]
            have m43 : μ11 43 = μ4 43 := by rw [e11, up_ne (by decide)]
            refine ihr (p + 1) (q * nW v + cntI (wf v) c) (sum + dy) (M - 2 ^ c.toNat) μ11 d' _ (by omega) (by omega) q' (by omega) ⟨?_, ?_, ?_, ?_, ?_⟩ hM' (by rw [m43]; exact pre' _ _ hg) ?_ (fun μ13 j1 j2 j3 w13 => ⟨rfl, fun μ15 e15 => ih μ15 ⟨fun k x y z => ?_, fun i hi => ?_, fun i hi => ?_⟩ ?_⟩)
            · rw [g11 4 (by decide) (by decide)]; exact e1
            · rw [g11 (4 + 7) (by decide) (by decide), k1 (4 + 7) (by decide) (by decide) (by decide)]; exact s2
            · rw [g11 (4 + 6) (by decide) (by decide), k1 (4 + 6) (by decide) (by decide) (by decide)]; exact s3
            · rw [g11 41 (by decide) (by decide), k2 1 (by decide)]; exact s4
            · rw [g11 41 (by decide) (by decide), k2 5 (by decide)]; exact s5
            · rw [g11 41 (by decide) (by decide), g11 42 (by decide) (by decide)]; exact w1
            · by_cases e : k = 44
              · subst e
                funext i
                rw [e15]
                by_cases ei : i = a
                · rw [ei, up_self, edy]
                · rw [up_off (Or.inr ei), j1 44 (by decide) (by decide) (by decide), e11, up_off (Or.inr ei), e4, up_ne (by decide), k1 44 (by decide) (by decide) (by decide)]
              · rw [e15, up_ne e, j1 k x y z, g11 k z e, k1 k x y z]
            · rw [e15, up_ne (by decide), j2 i hi, g11 41 (by decide) (by decide), k2 i hi]
            · rw [e15, up_ne (by decide), j3 i (by omega), m43, e4, up_off (Or.inr (by omega)), k3 i hi]
            · rw [cs, ← Int.add_assoc, e15, up_ne (by decide), up_ne (by decide)]; exact w13
    · have yb := blk_iv P1 y1 y2
      obtain ⟨b1, b2, b3, b4⟩ := pre y y0 yb
      have mo := gs_mono (u := u) (z := y) hV hS.1 hO (r + 1) p.toNat (by omega)
      rw [show ((p.toNat : Nat) : Int) = p by omega, show ((p.toNat + (r + 1) : Nat) : Int) = nW v by omega, b3] at mo
      replace mo : sum ≤ (gs v O u y (nW v)).2 := mo
      exact ⟨by omega, by omega⟩
    · exact Int.mul_le_mul_of_nonneg_right (by omega) (Int.le_of_lt P1)
end P86

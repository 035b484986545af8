/-! Pairs: asked. -/
set_option maxRecDepth 20000 in
theorem s_X1_leave {E : Ex} {μ : Mem} {Q : Option Vl → Mem → Prop} {x1 : Int}  (h : inR (μ 45 1) ∧ ((μ 45 1) ≥ 16 → Q none μ) ∧ (¬ (μ 45 1) ≥ 16 → (0 ≤ (μ 45 1) ∧ (μ 45 1) < 16) ∧ ∀ μ2 : Mem, μ2 = up μ 46 (μ 45 1) x1 → ∀ μ4 : Mem, μ4 = up μ2 45 1 ((μ2 45 1) + 1) → Q none μ4)) : Cl E 0 M_X1_leave [.inr 45, .inl x1] μ Q := by
  show Gg E 0 M_X1_leave 0 [some (.inr 45), some (.inl x1)] [] μ Q
  refine r_aloadn (q := 1) DM_X1_leave_0 rfl rfl ?_
  refine v_getI (q := 4) (ji := 1) DM_X1_leave_1 rfl fRX1_15 sh_45 rfl rfl ?_
  refine r_bipush (q := 6) (n := 16) DM_X1_leave_4 rfl (by decide) ?_
  have i1 := h.1
  replace h := h.2
  refine r_icge (q := 9) (t := 29) DM_X1_leave_6 rfl (by decide) ⟨⟨i1, (by decide)⟩, fun cc => ?_, fun cc => ?_⟩
  · replace h := h.1 cc
    exact r_ret (v := none) ⟨DM_X1_leave_29, rfl⟩ h
  · replace h := h.2 cc
    refine r_aloadn (q := 10) DM_X1_leave_9 rfl rfl ?_
    refine r_getR (q := 13) (r := 46) DM_X1_leave_10 rfl fRX1_9 sh_45 rfl ?_
    refine r_aloadn (q := 14) DM_X1_leave_13 rfl rfl ?_
    refine v_getI (q := 17) (ji := 1) DM_X1_leave_14 rfl fRX1_15 sh_45 rfl rfl ?_
    refine r_iloadn (q := 18) DM_X1_leave_17 rfl rfl ?_
    refine v_iast (q := 19) DM_X1_leave_18 rfl sh_46 (by decide) ⟨h.1, fun μ2 e2 => ?_⟩
    have i3 := h.1
    replace h := h.2 μ2 e2
    refine r_aloadn (q := 20) DM_X1_leave_19 rfl rfl ?_
    refine r_dup (q := 21) DM_X1_leave_20 rfl ?_
    refine v_getI (q := 24) (ji := 1) DM_X1_leave_21 rfl fRX1_15 sh_45 rfl rfl ?_
    refine r_iconst (q := 25) (n := 1) DM_X1_leave_24 rfl ?_
    refine r_iadd (q := 26) DM_X1_leave_25 rfl ?_
    refine v_put (q := 29) (ji := 1) DM_X1_leave_26 rfl pfRX1_15 sh_45 rfl rfl (Or.inl rfl) (fun μ4 e4 => ?_)
    replace h := h μ4 e4
    exact r_ret (v := none) ⟨DM_X1_leave_29, rfl⟩ h
set_option maxRecDepth 20000 in
theorem s_X1_answer {E : Ex} {μ : Mem} {Q : Option Vl → Mem → Prop} {x2 x3 : Int}  (h : ∀ μ1 : Mem, μ1 = up μ 45 1 0 → (0 ≤ x2 ∧ x2 < 6) ∧ inR x3 ∧ (x3 ≠ 0 → (0 ≤ (μ1 (4 + 3) x2) ∧ (μ1 (4 + 3) x2) < 6) ∧ Cl E 20 M_X1_give [.inr 45, .inr 4, .inl x2, .inl (eR E 3 ((μ1 (4 + 3) x2)).toNat), .inl 0] μ1 (fun vv μ4 => ∃ v5, vv = some (.inl v5) ∧ Q (some (.inl v5)) μ4)) ∧ (x3 = 0 → (0 ≤ (μ1 (4 + 3) x2) ∧ (μ1 (4 + 3) x2) < 6) ∧ Cl E 20 M_X1_give [.inr 45, .inr 4, .inl x2, .inl (eR E 2 ((μ1 (4 + 3) x2)).toNat), .inl 0] μ1 (fun vv μ6 => ∃ v7, vv = some (.inl v7) ∧ Q (some (.inl v7)) μ6))) : Cl E 21 M_X1_answer [.inr 45, .inr 4, .inl x2, .inl x3] μ Q := by
  show Gg E 21 M_X1_answer 0 [some (.inr 45), some (.inr 4), some (.inl x2), some (.inl x3), none] [] μ Q
  refine r_aloadn (q := 1) DM_X1_answer_0 rfl rfl ?_
  refine r_iconst (q := 2) (n := 0) DM_X1_answer_1 rfl ?_
  refine v_put (q := 5) (ji := 1) DM_X1_answer_2 rfl pfRX1_15 sh_45 rfl rfl (Or.inl rfl) (fun μ1 e1 => ?_)
  replace h := h μ1 e1
  refine r_aloadn (q := 6) DM_X1_answer_5 rfl rfl ?_
  refine r_getR (q := 9) (r := 4 + 3) DM_X1_answer_6 rfl fRX1_19 (co0 cK_4) rfl ?_
  refine r_iloadn (q := 10) DM_X1_answer_9 rfl rfl ?_
  refine r_iald (q := 11) DM_X1_answer_10 rfl (co3 cK_4) (by decide) ⟨h.1, ?_⟩
  have i2 := h.1
  replace h := h.2
  refine v_istore (q := 13) (ls' := [some (.inr 45), some (.inr 4), some (.inl x2), some (.inl x3), some (.inl (μ1 (4 + 3) x2))]) DM_X1_answer_11 rfl (by decide) rfl ?_
  refine r_aloadn (q := 14) DM_X1_answer_13 rfl rfl ?_
  refine r_aloadn (q := 15) DM_X1_answer_14 rfl rfl ?_
  refine r_iloadn (q := 16) DM_X1_answer_15 rfl rfl ?_
  refine r_iloadn (q := 17) DM_X1_answer_16 rfl rfl ?_
  have i3 := h.1
  replace h := h.2
  refine r_ifne (q := 20) (t := 29) DM_X1_answer_17 rfl (by decide) ⟨i3, fun cc => ?_, fun cc => ?_⟩
  · replace h := h.1 cc
    refine r_gets (q := 32) (t := 3) DM_X1_answer_29 rfl (by decide) zRX1_27 ?_
    refine r_iload (q := 34) DM_X1_answer_32 rfl rfl ?_
    refine v_tald (q := 35) (t := 3) (N := 6) DM_X1_answer_34 rfl (by decide) rfl ⟨h.1, ?_⟩
    replace h := h.2
    refine r_iconst (q := 36) (n := 0) DM_X1_answer_35 rfl ?_
    refine r_callSi [.inr 45, .inr 4, .inl x2, .inl (eR E 3 ((μ1 (4 + 3) x2)).toNat), .inl 0] (q := 39) DM_X1_answer_36 rfl kM_X1_give lRX1_30 rfl (by decide) (Nat.le_of_ble_eq_true rfl) rfl (Cl.imp h (fun vv μ4 h => ?_))
    obtain ⟨v5, hv, h⟩ := h
    refine ⟨v5, hv, ?_⟩
    exact r_ret (v := some (.inl v5)) ⟨DM_X1_answer_39, Or.inl rfl⟩ h
  · replace h := h.2 cc
    refine r_gets (q := 23) (t := 2) DM_X1_answer_20 rfl (by decide) zRX1_24 ?_
    refine r_iload (q := 25) DM_X1_answer_23 rfl rfl ?_
    refine v_tald (q := 26) (t := 2) (N := 6) DM_X1_answer_25 rfl (by decide) rfl ⟨h.1, ?_⟩
    replace h := h.2
    refine r_goto (q := 35) DM_X1_answer_26 (by decide) ?_
    refine r_iconst (q := 36) (n := 0) DM_X1_answer_35 rfl ?_
    refine r_callSi [.inr 45, .inr 4, .inl x2, .inl (eR E 2 ((μ1 (4 + 3) x2)).toNat), .inl 0] (q := 39) DM_X1_answer_36 rfl kM_X1_give lRX1_30 rfl (by decide) (Nat.le_of_ble_eq_true rfl) rfl (Cl.imp h (fun vv μ6 h => ?_))
    obtain ⟨v7, hv, h⟩ := h
    refine ⟨v7, hv, ?_⟩
    exact r_ret (v := some (.inl v7)) ⟨DM_X1_answer_39, Or.inl rfl⟩ h
set_option maxRecDepth 20000 in
theorem s_X1_give {E : Ex} {μ : Mem} {Q : Option Vl → Mem → Prop} {x2 x3 x4 : Int}  {d : Nat} (hd : 1 ≤ d) (h : inR x4 ∧ (x4 ≤ 12 → Cl E 0 M_X1_leave [.inr 45, .inl x3] μ (fun vv μ2 => vv = none ∧ (0 ≤ x2 ∧ x2 < 6) ∧ inR x3 ∧ ((x3 < 10 ∨ 24 < x3) → Q (some (.inl 0)) μ2) ∧ (x3 = 10 → Q (some (.inl (μ2 (4 + 6) x2))) μ2) ∧ (x3 = 11 → Cl E d M_X1_give [.inr 45, .inr 4, .inl x2, .inl 10, .inl (x4 + 1)] μ2 (fun vv μ6 => ∃ v7, vv = some (.inl v7) ∧ (0 ≤ (μ2 (4 + 3) x2) ∧ (μ2 (4 + 3) x2) < 6) ∧ Cl E d M_X1_give [.inr 45, .inr 4, .inl x2, .inl (eR E 3 ((μ2 (4 + 3) x2)).toNat), .inl (x4 + 1)] μ6 (fun vv μ8 => ∃ v9, vv = some (.inl v9) ∧ Q (some (.inl (v7 + v9))) μ8))) ∧ (x3 = 12 → Cl E d M_X1_give [.inr 45, .inr 4, .inl x2, .inl 11, .inl (x4 + 1)] μ2 (fun vv μ10 => ∃ v11, vv = some (.inl v11) ∧ Q (some (.inl (0 - v11))) μ10)) ∧ (x3 = 13 → Cl E d M_X1_give [.inr 45, .inr 4, .inl x2, .inl 10, .inl (x4 + 1)] μ2 (fun vv μ12 => ∃ v13, vv = some (.inl v13) ∧ Q (some (.inl (v13 - 100))) μ12)) ∧ (x3 = 14 → Cl E d M_X1_give [.inr 45, .inr 4, .inl x2, .inl 13, .inl (x4 + 1)] μ2 (fun vv μ14 => ∃ v15, vv = some (.inl v15) ∧ Q (some (.inl (v15 * 2))) μ14)) ∧ (x3 = 15 → Q (some (.inl 0)) μ2) ∧ (x3 = 16 → Q (some (.inl 0)) μ2) ∧ (x3 = 17 → Q (some (.inl 0)) μ2) ∧ (x3 = 18 → Q (some (.inl 0)) μ2) ∧ (x3 = 19 → Q (some (.inl 0)) μ2) ∧ (x3 = 20 → Q (some (.inl x2)) μ2) ∧ (x3 = 21 → Cl E d M_X1_give [.inr 45, .inr 4, .inl x2, .inl 20, .inl (x4 + 1)] μ2 (fun vv μ16 => ∃ v17, vv = some (.inl v17) ∧ Q (some (.inl (v17 + (μ16 (4 + 4) x2)))) μ16)) ∧ (x3 = 22 → Cl E d M_X1_give [.inr 45, .inr 4, .inl x2, .inl 21, .inl (x4 + 1)] μ2 (fun vv μ18 => ∃ v19, vv = some (.inl v19) ∧ Q (some (.inl (v19 - 1000))) μ18)) ∧ (x3 = 23 → Cl E d M_X1_give [.inr 45, .inr 4, .inl x2, .inl 20, .inl (x4 + 1)] μ2 (fun vv μ20 => ∃ v21, vv = some (.inl v21) ∧ (0 ≤ (μ2 (4 + 3) x2) ∧ (μ2 (4 + 3) x2) < 6) ∧ Cl E d M_X1_give [.inr 45, .inr 4, .inl x2, .inl (eR E 2 ((μ2 (4 + 3) x2)).toNat), .inl (x4 + 1)] μ20 (fun vv μ22 => ∃ v23, vv = some (.inl v23) ∧ Q (some (.inl (v21 - v23))) μ22))) ∧ (x3 = 24 → Cl E d M_X1_give [.inr 45, .inr 4, .inl x2, .inl 21, .inl (x4 + 1)] μ2 (fun vv μ24 => ∃ v25, vv = some (.inl v25) ∧ Q (some (.inl (v25 * 2))) μ24)) ∧ True)) ∧ (¬ x4 ≤ 12 → Q (some (.inl 0)) μ)) : Cl E (d + 1) M_X1_give [.inr 45, .inr 4, .inl x2, .inl x3, .inl x4] μ Q := by
  show Gg E (d + 1) M_X1_give 0 [some (.inr 45), some (.inr 4), some (.inl x2), some (.inl x3), some (.inl x4), none, none] [] μ Q
  refine r_iload (q := 2) DM_X1_give_0 rfl rfl ?_
  refine r_bipush (q := 4) (n := 12) DM_X1_give_2 rfl (by decide) ?_
  have i1 := h.1
  replace h := h.2
  refine r_icle (q := 7) (t := 9) DM_X1_give_4 rfl (by decide) ⟨⟨i1, (by decide)⟩, fun cc => ?_, fun cc => ?_⟩
  · replace h := h.1 cc
    refine r_aloadn (q := 10) DM_X1_give_9 rfl rfl ?_
    refine r_iloadn (q := 11) DM_X1_give_10 rfl rfl ?_
    refine r_callVv [.inl x3] (q := 14) DM_X1_give_11 rfl kM_X1_leave lRX1_34 sh_45 rfl rfl (by omega) (Nat.le_of_ble_eq_true rfl) rfl (Cl.imp h (fun vv μ2 h => ?_))
    obtain ⟨hv, h⟩ := h
    refine ⟨hv, ?_⟩
    refine r_iload (q := 16) DM_X1_give_14 rfl rfl ?_
    refine r_iconst (q := 17) (n := 1) DM_X1_give_16 rfl ?_
    refine r_iadd (q := 18) DM_X1_give_17 rfl ?_
    refine v_istore (q := 20) (ls' := [some (.inr 45), some (.inr 4), some (.inl x2), some (.inl x3), some (.inl x4), some (.inl (x4 + 1)), none]) DM_X1_give_18 rfl (by decide) rfl ?_
    refine r_aloadn (q := 21) DM_X1_give_20 rfl rfl ?_
    refine r_getR (q := 24) (r := 4 + 3) DM_X1_give_21 rfl fRX1_19 (co0 cK_4) rfl ?_
    refine r_iloadn (q := 25) DM_X1_give_24 rfl rfl ?_
    refine r_iald (q := 26) DM_X1_give_25 rfl (co3 cK_4) (by decide) ⟨h.1, ?_⟩
    have i4 := h.1
    replace h := h.2
    refine v_istore (q := 28) (ls' := [some (.inr 45), some (.inr 4), some (.inl x2), some (.inl x3), some (.inl x4), some (.inl (x4 + 1)), some (.inl (μ2 (4 + 3) x2))]) DM_X1_give_26 rfl (by decide) rfl ?_
    refine r_iloadn (q := 29) DM_X1_give_28 rfl rfl ?_
    have i5 := h.1
    replace h := h.2
    refine r_tab DM_X1_give_29 i5 (fun c1 c2 => ?_) (fun cc => ⟨251, by decide, ?_⟩)
    · rcases (show x3 = 10 ∨ x3 = 11 ∨ x3 = 12 ∨ x3 = 13 ∨ x3 = 14 ∨ x3 = 15 ∨ x3 = 16 ∨ x3 = 17 ∨ x3 = 18 ∨ x3 = 19 ∨ x3 = 20 ∨ x3 = 21 ∨ x3 = 22 ∨ x3 = 23 ∨ x3 = 24 from by omega) with cc | cc | cc | cc | cc | cc | cc | cc | cc | cc | cc | cc | cc | cc | cc
      · replace h := h.2.1 cc
        refine ⟨75, 104, by rw [cc]; rfl, by decide, ?_⟩
        refine r_aloadn (q := 105) DM_X1_give_104 rfl rfl ?_
        refine r_getR (q := 108) (r := 4 + 6) DM_X1_give_105 rfl fRX1_38 (co0 cK_4) rfl ?_
        refine r_iloadn (q := 109) DM_X1_give_108 rfl rfl ?_
        refine r_iald (q := 110) DM_X1_give_109 rfl (co6 cK_4) (by decide) ⟨i4, ?_⟩
        exact r_ret (v := some (.inl (μ2 (4 + 6) x2))) ⟨DM_X1_give_110, Or.inl rfl⟩ h
      · replace h := h.2.2.1 cc
        refine ⟨82, 111, by rw [cc]; rfl, by decide, ?_⟩
        refine r_aloadn (q := 112) DM_X1_give_111 rfl rfl ?_
        refine r_aloadn (q := 113) DM_X1_give_112 rfl rfl ?_
        refine r_iloadn (q := 114) DM_X1_give_113 rfl rfl ?_
        refine r_bipush (q := 116) (n := 10) DM_X1_give_114 rfl (by decide) ?_
        refine r_iload (q := 118) DM_X1_give_116 rfl rfl ?_
        refine r_callSi [.inr 45, .inr 4, .inl x2, .inl 10, .inl (x4 + 1)] (q := 121) DM_X1_give_118 rfl kM_X1_give lRX1_30 rfl (by omega) (Nat.le_of_ble_eq_true rfl) rfl (Cl.imp h (fun vv μ6 h => ?_))
        obtain ⟨v7, hv, h⟩ := h
        refine ⟨v7, hv, ?_⟩
        refine r_aloadn (q := 122) DM_X1_give_121 rfl rfl ?_
        refine r_aloadn (q := 123) DM_X1_give_122 rfl rfl ?_
        refine r_iloadn (q := 124) DM_X1_give_123 rfl rfl ?_
        refine r_gets (q := 127) (t := 3) DM_X1_give_124 rfl (by decide) zRX1_27 ?_
        refine r_iload (q := 129) DM_X1_give_127 rfl rfl ?_
        refine v_tald (q := 130) (t := 3) (N := 6) DM_X1_give_129 rfl (by decide) rfl ⟨h.1, ?_⟩
        replace h := h.2
        refine r_iload (q := 132) DM_X1_give_130 rfl rfl ?_
        refine r_callSi [.inr 45, .inr 4, .inl x2, .inl (eR E 3 ((μ2 (4 + 3) x2)).toNat), .inl (x4 + 1)] (q := 135) DM_X1_give_132 rfl kM_X1_give lRX1_30 rfl (by omega) (Nat.le_of_ble_eq_true rfl) rfl (Cl.imp h (fun vv μ8 h => ?_))
        obtain ⟨v9, hv, h⟩ := h
        refine ⟨v9, hv, ?_⟩
        refine r_iadd (q := 136) DM_X1_give_135 rfl ?_
        exact r_ret (v := some (.inl (v7 + v9))) ⟨DM_X1_give_136, Or.inl rfl⟩ h
      · replace h := h.2.2.2.1 cc
        refine ⟨108, 137, by rw [cc]; rfl, by decide, ?_⟩
        refine r_iconst (q := 138) (n := 0) DM_X1_give_137 rfl ?_
        refine r_aloadn (q := 139) DM_X1_give_138 rfl rfl ?_
        refine r_aloadn (q := 140) DM_X1_give_139 rfl rfl ?_
        refine r_iloadn (q := 141) DM_X1_give_140 rfl rfl ?_
        refine r_bipush (q := 143) (n := 11) DM_X1_give_141 rfl (by decide) ?_
        refine r_iload (q := 145) DM_X1_give_143 rfl rfl ?_
        refine r_callSi [.inr 45, .inr 4, .inl x2, .inl 11, .inl (x4 + 1)] (q := 148) DM_X1_give_145 rfl kM_X1_give lRX1_30 rfl (by omega) (Nat.le_of_ble_eq_true rfl) rfl (Cl.imp h (fun vv μ10 h => ?_))
        obtain ⟨v11, hv, h⟩ := h
        refine ⟨v11, hv, ?_⟩
        refine r_isub (q := 149) DM_X1_give_148 rfl ?_
        exact r_ret (v := some (.inl (0 - v11))) ⟨DM_X1_give_149, Or.inl rfl⟩ h
      · replace h := h.2.2.2.2.1 cc
        refine ⟨121, 150, by rw [cc]; rfl, by decide, ?_⟩
        refine r_aloadn (q := 151) DM_X1_give_150 rfl rfl ?_
        refine r_aloadn (q := 152) DM_X1_give_151 rfl rfl ?_
        refine r_iloadn (q := 153) DM_X1_give_152 rfl rfl ?_
        refine r_bipush (q := 155) (n := 10) DM_X1_give_153 rfl (by decide) ?_
        refine r_iload (q := 157) DM_X1_give_155 rfl rfl ?_
        refine r_callSi [.inr 45, .inr 4, .inl x2, .inl 10, .inl (x4 + 1)] (q := 160) DM_X1_give_157 rfl kM_X1_give lRX1_30 rfl (by omega) (Nat.le_of_ble_eq_true rfl) rfl (Cl.imp h (fun vv μ12 h => ?_))
        obtain ⟨v13, hv, h⟩ := h
        refine ⟨v13, hv, ?_⟩
        refine r_bipush (q := 162) (n := 100) DM_X1_give_160 rfl (by decide) ?_
        refine r_isub (q := 163) DM_X1_give_162 rfl ?_
        exact r_ret (v := some (.inl (v13 - 100))) ⟨DM_X1_give_163, Or.inl rfl⟩ h
      · replace h := h.2.2.2.2.2.1 cc
        refine ⟨135, 164, by rw [cc]; rfl, by decide, ?_⟩
        refine r_aloadn (q := 165) DM_X1_give_164 rfl rfl ?_
        refine r_aloadn (q := 166) DM_X1_give_165 rfl rfl ?_
        refine r_iloadn (q := 167) DM_X1_give_166 rfl rfl ?_
        refine r_bipush (q := 169) (n := 13) DM_X1_give_167 rfl (by decide) ?_
        refine r_iload (q := 171) DM_X1_give_169 rfl rfl ?_
        refine r_callSi [.inr 45, .inr 4, .inl x2, .inl 13, .inl (x4 + 1)] (q := 174) DM_X1_give_171 rfl kM_X1_give lRX1_30 rfl (by omega) (Nat.le_of_ble_eq_true rfl) rfl (Cl.imp h (fun vv μ14 h => ?_))
        obtain ⟨v15, hv, h⟩ := h
        refine ⟨v15, hv, ?_⟩
        refine r_iconst (q := 175) (n := 2) DM_X1_give_174 rfl ?_
        refine r_imul (q := 176) DM_X1_give_175 rfl ?_
        exact r_ret (v := some (.inl (v15 * 2))) ⟨DM_X1_give_176, Or.inl rfl⟩ h
      · replace h := h.2.2.2.2.2.2.1 cc
        refine ⟨222, 251, by rw [cc]; rfl, by decide, ?_⟩
        refine r_iconst (q := 252) (n := 0) DM_X1_give_251 rfl ?_
        exact r_ret (v := some (.inl 0)) ⟨DM_X1_give_252, Or.inl rfl⟩ h
      · replace h := h.2.2.2.2.2.2.2.1 cc
        refine ⟨222, 251, by rw [cc]; rfl, by decide, ?_⟩
        refine r_iconst (q := 252) (n := 0) DM_X1_give_251 rfl ?_
        exact r_ret (v := some (.inl 0)) ⟨DM_X1_give_252, Or.inl rfl⟩ h
      · replace h := h.2.2.2.2.2.2.2.2.1 cc
        refine ⟨222, 251, by rw [cc]; rfl, by decide, ?_⟩
        refine r_iconst (q := 252) (n := 0) DM_X1_give_251 rfl ?_
        exact r_ret (v := some (.inl 0)) ⟨DM_X1_give_252, Or.inl rfl⟩ h
      · replace h := h.2.2.2.2.2.2.2.2.2.1 cc
        refine ⟨222, 251, by rw [cc]; rfl, by decide, ?_⟩
        refine r_iconst (q := 252) (n := 0) DM_X1_give_251 rfl ?_
        exact r_ret (v := some (.inl 0)) ⟨DM_X1_give_252, Or.inl rfl⟩ h
      · replace h := h.2.2.2.2.2.2.2.2.2.2.1 cc
        refine ⟨222, 251, by rw [cc]; rfl, by decide, ?_⟩
        refine r_iconst (q := 252) (n := 0) DM_X1_give_251 rfl ?_
        exact r_ret (v := some (.inl 0)) ⟨DM_X1_give_252, Or.inl rfl⟩ h
      · replace h := h.2.2.2.2.2.2.2.2.2.2.2.1 cc
        refine ⟨148, 177, by rw [cc]; rfl, by decide, ?_⟩
        refine r_iloadn (q := 178) DM_X1_give_177 rfl rfl ?_
        exact r_ret (v := some (.inl x2)) ⟨DM_X1_give_178, Or.inl rfl⟩ h
      · replace h := h.2.2.2.2.2.2.2.2.2.2.2.2.1 cc
        refine ⟨150, 179, by rw [cc]; rfl, by decide, ?_⟩
        refine r_aloadn (q := 180) DM_X1_give_179 rfl rfl ?_
        refine r_aloadn (q := 181) DM_X1_give_180 rfl rfl ?_
        refine r_iloadn (q := 182) DM_X1_give_181 rfl rfl ?_
        refine r_bipush (q := 184) (n := 20) DM_X1_give_182 rfl (by decide) ?_
        refine r_iload (q := 186) DM_X1_give_184 rfl rfl ?_
        refine r_callSi [.inr 45, .inr 4, .inl x2, .inl 20, .inl (x4 + 1)] (q := 189) DM_X1_give_186 rfl kM_X1_give lRX1_30 rfl (by omega) (Nat.le_of_ble_eq_true rfl) rfl (Cl.imp h (fun vv μ16 h => ?_))
        obtain ⟨v17, hv, h⟩ := h
        refine ⟨v17, hv, ?_⟩
        refine r_aloadn (q := 190) DM_X1_give_189 rfl rfl ?_
        refine r_getR (q := 193) (r := 4 + 4) DM_X1_give_190 rfl fRX1_41 (co0 cK_4) rfl ?_
        refine r_iloadn (q := 194) DM_X1_give_193 rfl rfl ?_
        refine r_iald (q := 195) DM_X1_give_194 rfl (co4 cK_4) (by decide) ⟨i4, ?_⟩
        refine r_iadd (q := 196) DM_X1_give_195 rfl ?_
        exact r_ret (v := some (.inl (v17 + (μ16 (4 + 4) x2)))) ⟨DM_X1_give_196, Or.inl rfl⟩ h
      · replace h := h.2.2.2.2.2.2.2.2.2.2.2.2.2.1 cc
        refine ⟨168, 197, by rw [cc]; rfl, by decide, ?_⟩
        refine r_aloadn (q := 198) DM_X1_give_197 rfl rfl ?_
        refine r_aloadn (q := 199) DM_X1_give_198 rfl rfl ?_
        refine r_iloadn (q := 200) DM_X1_give_199 rfl rfl ?_
        refine r_bipush (q := 202) (n := 21) DM_X1_give_200 rfl (by decide) ?_
        refine r_iload (q := 204) DM_X1_give_202 rfl rfl ?_
        refine r_callSi [.inr 45, .inr 4, .inl x2, .inl 21, .inl (x4 + 1)] (q := 207) DM_X1_give_204 rfl kM_X1_give lRX1_30 rfl (by omega) (Nat.le_of_ble_eq_true rfl) rfl (Cl.imp h (fun vv μ18 h => ?_))
        obtain ⟨v19, hv, h⟩ := h
        refine ⟨v19, hv, ?_⟩
        refine r_sipush (q := 210) (n := 1000) DM_X1_give_207 rfl (by decide) ?_
        refine r_isub (q := 211) DM_X1_give_210 rfl ?_
        exact r_ret (v := some (.inl (v19 - 1000))) ⟨DM_X1_give_211, Or.inl rfl⟩ h
      · replace h := h.2.2.2.2.2.2.2.2.2.2.2.2.2.2.1 cc
        refine ⟨183, 212, by rw [cc]; rfl, by decide, ?_⟩
        refine r_aloadn (q := 213) DM_X1_give_212 rfl rfl ?_
        refine r_aloadn (q := 214) DM_X1_give_213 rfl rfl ?_
        refine r_iloadn (q := 215) DM_X1_give_214 rfl rfl ?_
        refine r_bipush (q := 217) (n := 20) DM_X1_give_215 rfl (by decide) ?_
        refine r_iload (q := 219) DM_X1_give_217 rfl rfl ?_
        refine r_callSi [.inr 45, .inr 4, .inl x2, .inl 20, .inl (x4 + 1)] (q := 222) DM_X1_give_219 rfl kM_X1_give lRX1_30 rfl (by omega) (Nat.le_of_ble_eq_true rfl) rfl (Cl.imp h (fun vv μ20 h => ?_))
        obtain ⟨v21, hv, h⟩ := h
        refine ⟨v21, hv, ?_⟩
        refine r_aloadn (q := 223) DM_X1_give_222 rfl rfl ?_
        refine r_aloadn (q := 224) DM_X1_give_223 rfl rfl ?_
        refine r_iloadn (q := 225) DM_X1_give_224 rfl rfl ?_
        refine r_gets (q := 228) (t := 2) DM_X1_give_225 rfl (by decide) zRX1_24 ?_
        refine r_iload (q := 230) DM_X1_give_228 rfl rfl ?_
        refine v_tald (q := 231) (t := 2) (N := 6) DM_X1_give_230 rfl (by decide) rfl ⟨h.1, ?_⟩
        replace h := h.2
        refine r_iload (q := 233) DM_X1_give_231 rfl rfl ?_
        refine r_callSi [.inr 45, .inr 4, .inl x2, .inl (eR E 2 ((μ2 (4 + 3) x2)).toNat), .inl (x4 + 1)] (q := 236) DM_X1_give_233 rfl kM_X1_give lRX1_30 rfl (by omega) (Nat.le_of_ble_eq_true rfl) rfl (Cl.imp h (fun vv μ22 h => ?_))
        obtain ⟨v23, hv, h⟩ := h
        refine ⟨v23, hv, ?_⟩
        refine r_isub (q := 237) DM_X1_give_236 rfl ?_
        exact r_ret (v := some (.inl (v21 - v23))) ⟨DM_X1_give_237, Or.inl rfl⟩ h
      · replace h := h.2.2.2.2.2.2.2.2.2.2.2.2.2.2.2.1 cc
        refine ⟨209, 238, by rw [cc]; rfl, by decide, ?_⟩
        refine r_aloadn (q := 239) DM_X1_give_238 rfl rfl ?_
        refine r_aloadn (q := 240) DM_X1_give_239 rfl rfl ?_
        refine r_iloadn (q := 241) DM_X1_give_240 rfl rfl ?_
        refine r_bipush (q := 243) (n := 21) DM_X1_give_241 rfl (by decide) ?_
        refine r_iload (q := 245) DM_X1_give_243 rfl rfl ?_
        refine r_callSi [.inr 45, .inr 4, .inl x2, .inl 21, .inl (x4 + 1)] (q := 248) DM_X1_give_245 rfl kM_X1_give lRX1_30 rfl (by omega) (Nat.le_of_ble_eq_true rfl) rfl (Cl.imp h (fun vv μ24 h => ?_))
        obtain ⟨v25, hv, h⟩ := h
        refine ⟨v25, hv, ?_⟩
        refine r_iconst (q := 249) (n := 2) DM_X1_give_248 rfl ?_
        refine r_imul (q := 250) DM_X1_give_249 rfl ?_
        exact r_ret (v := some (.inl (v25 * 2))) ⟨DM_X1_give_250, Or.inl rfl⟩ h
    · replace h := h.1 cc
      refine r_iconst (q := 252) (n := 0) DM_X1_give_251 rfl ?_
      exact r_ret (v := some (.inl 0)) ⟨DM_X1_give_252, Or.inl rfl⟩ h
  · replace h := h.2 cc
    refine r_iconst (q := 8) (n := 0) DM_X1_give_7 rfl ?_
    exact r_ret (v := some (.inl 0)) ⟨DM_X1_give_8, Or.inl rfl⟩ h
set_option maxRecDepth 20000 in
theorem s_X7_ask {E : Ex} {μ : Mem} {Q : Option Vl → Mem → Prop} {x1 x2 : Int}  (ix1 : inR x1) (ix2 : inR x2) (h : inR (μ 4 1) ∧ (¬ (0 ≤ x1 ∧ x1 < μ 4 1) → Q (some (.inl (-1000001))) μ) ∧ ((0 ≤ x1 ∧ x1 < μ 4 1) → ((0 ≤ x2 ∧ x2 < 2) → Cl E 21 M_X1_answer [.inr 45, .inr 4, .inl x1, .inl x2] μ (fun vv μ2 => ∃ v3, vv = some (.inl v3) ∧ Q (some (.inl v3)) μ2)) ∧ (¬ (0 ≤ x2 ∧ x2 < 2) → Q (some (.inl (-1000001))) μ))) : Cl E 22 M_X7_ask [.inr 0, .inl x1, .inl x2] μ Q := by
  show Gg E 22 M_X7_ask 0 [some (.inr 0), some (.inl x1), some (.inl x2)] [] μ Q
  refine r_aloadn (q := 1) DM_X7_ask_0 rfl rfl ?_
  refine r_iloadn (q := 2) DM_X7_ask_1 rfl rfl ?_
  have i1 := h.1
  replace h := h.2
  refine r_callVi [.inl x1] (q := 5) DM_X7_ask_2 rfl kM_X7_isPerson lRX7_187 sh_0 rfl rfl (by decide) (Nat.le_of_ble_eq_true rfl) rfl (k_X7_isPerson ix1 i1 ⟨_, rfl, ?_⟩)
  refine r_bieq (q := 8) (t := 16) DM_X7_ask_5 rfl (by decide) ⟨fun cc => ?_, fun cc => ?_⟩
  · replace h := h.1 cc
    refine r_ldc (q := 18) (n := (-1000001)) DM_X7_ask_16 rfl nRX7_69 ?_
    exact r_ret (v := some (.inl (-1000001))) ⟨DM_X7_ask_18, Or.inl rfl⟩ h
  · replace h := h.2 cc
    refine r_iloadn (q := 9) DM_X7_ask_8 rfl rfl ?_
    refine r_iconst (q := 10) (n := 2) DM_X7_ask_9 rfl ?_
    refine r_callSi [.inl x2, .inl 2] (q := 13) DM_X7_ask_10 rfl kM_X7_isIn lRX7_65 rfl (by decide) (Nat.le_of_ble_eq_true rfl) rfl (k_X7_isIn ix2 (by decide) ⟨_, rfl, ?_⟩)
    refine r_bine (q := 16) (t := 19) DM_X7_ask_13 rfl (by decide) ⟨fun cc => ?_, fun cc => ?_⟩
    · replace h := h.1 cc
      refine r_aloadn (q := 20) DM_X7_ask_19 rfl rfl ?_
      refine r_getR (q := 23) (r := 45) DM_X7_ask_20 rfl fRX7_60 sh_0 rfl ?_
      refine r_aloadn (q := 24) DM_X7_ask_23 rfl rfl ?_
      refine r_getR (q := 27) (r := 4) DM_X7_ask_24 rfl fRX7_25 sh_0 rfl ?_
      refine r_iloadn (q := 28) DM_X7_ask_27 rfl rfl ?_
      refine r_iloadn (q := 29) DM_X7_ask_28 rfl rfl ?_
      refine r_callVi [.inr 4, .inl x1, .inl x2] (q := 32) DM_X7_ask_29 rfl kM_X1_answer lRX7_261 sh_45 rfl rfl (by decide) (Nat.le_of_ble_eq_true rfl) rfl (Cl.imp h (fun vv μ2 h => ?_))
      obtain ⟨v3, hv, h⟩ := h
      refine ⟨v3, hv, ?_⟩
      exact r_ret (v := some (.inl v3)) ⟨DM_X7_ask_32, Or.inl rfl⟩ h
    · replace h := h.2 cc
      refine r_ldc (q := 18) (n := (-1000001)) DM_X7_ask_16 rfl nRX7_69 ?_
      exact r_ret (v := some (.inl (-1000001))) ⟨DM_X7_ask_18, Or.inl rfl⟩ h
set_option maxRecDepth 20000 in
theorem s_X8_begins {E : Ex} {μ : Mem} {Q : Option Vl → Mem → Prop} {x1 : Int}  (h : inR (μ 83 21) ∧ ((μ 83 21) ≥ 16 → Q none μ) ∧ (¬ (μ 83 21) ≥ 16 → (0 ≤ (μ 83 21) ∧ (μ 83 21) < 16) ∧ ∀ μ2 : Mem, μ2 = up μ 95 (μ 83 21) x1 → ∀ μ4 : Mem, μ4 = up μ2 83 21 ((μ2 83 21) + 1) → Q none μ4)) : Cl E 0 M_X8_begins [.inr 83, .inl x1] μ Q := by
  show Gg E 0 M_X8_begins 0 [some (.inr 83), some (.inl x1)] [] μ Q
  refine r_aloadn (q := 1) DM_X8_begins_0 rfl rfl ?_
  refine v_getI (q := 4) (ji := 21) DM_X8_begins_1 rfl fRX8_248 sh_83 rfl rfl ?_
  refine r_bipush (q := 6) (n := 16) DM_X8_begins_4 rfl (by decide) ?_
  have i1 := h.1
  replace h := h.2
  refine r_icge (q := 9) (t := 29) DM_X8_begins_6 rfl (by decide) ⟨⟨i1, (by decide)⟩, fun cc => ?_, fun cc => ?_⟩
  · replace h := h.1 cc
    exact r_ret (v := none) ⟨DM_X8_begins_29, rfl⟩ h
  · replace h := h.2 cc
    refine r_aloadn (q := 10) DM_X8_begins_9 rfl rfl ?_
    refine r_getR (q := 13) (r := 95) DM_X8_begins_10 rfl fRX8_44 sh_83 rfl ?_
    refine r_aloadn (q := 14) DM_X8_begins_13 rfl rfl ?_
    refine v_getI (q := 17) (ji := 21) DM_X8_begins_14 rfl fRX8_248 sh_83 rfl rfl ?_
    refine r_iloadn (q := 18) DM_X8_begins_17 rfl rfl ?_
    refine v_iast (q := 19) DM_X8_begins_18 rfl sh_95 (by decide) ⟨h.1, fun μ2 e2 => ?_⟩
    have i3 := h.1
    replace h := h.2 μ2 e2
    refine r_aloadn (q := 20) DM_X8_begins_19 rfl rfl ?_
    refine r_dup (q := 21) DM_X8_begins_20 rfl ?_
    refine v_getI (q := 24) (ji := 21) DM_X8_begins_21 rfl fRX8_248 sh_83 rfl rfl ?_
    refine r_iconst (q := 25) (n := 1) DM_X8_begins_24 rfl ?_
    refine r_iadd (q := 26) DM_X8_begins_25 rfl ?_
    refine v_put (q := 29) (ji := 21) DM_X8_begins_26 rfl pfRX8_248 sh_83 rfl rfl (Or.inl rfl) (fun μ4 e4 => ?_)
    replace h := h μ4 e4
    exact r_ret (v := none) ⟨DM_X8_begins_29, rfl⟩ h
set_option maxRecDepth 20000 in
theorem s_X8_plainMark {E : Ex} {μ : Mem} {Q : Option Vl → Mem → Prop} {x1 : Int}  (h : (0 ≤ 13 + 13 * x1 + 0 ∧ 13 + 13 * x1 + 0 < 91) ∧ inR (μ 89 (13 + 13 * x1 + 0)) ∧ ((μ 89 (13 + 13 * x1 + 0)) = 1 → Gg E 1 M_X8_plainMark 31 [some (.inr 83), some (.inl x1), some (.inl (μ 89 (13 + 13 * x1 + 0))), none] [] μ Q) ∧ (¬ (μ 89 (13 + 13 * x1 + 0)) = 1 → ((μ 89 (13 + 13 * x1 + 0)) ≠ 2 → Cl E 0 M_X8_begins [.inr 83, .inl 22] μ (fun vv μ3 => vv = none ∧ Gg E 1 M_X8_plainMark 31 [some (.inr 83), some (.inl x1), some (.inl (μ 89 (13 + 13 * x1 + 0))), none] [] μ3 Q)) ∧ ((μ 89 (13 + 13 * x1 + 0)) = 2 → Cl E 0 M_X8_begins [.inr 83, .inl 24] μ (fun vv μ5 => vv = none ∧ Gg E 1 M_X8_plainMark 31 [some (.inr 83), some (.inl x1), some (.inl (μ 89 (13 + 13 * x1 + 0))), none] [] μ5 Q)))) : Cl E 1 M_X8_plainMark [.inr 83, .inl x1] μ Q := by
  show Gg E 1 M_X8_plainMark 0 [some (.inr 83), some (.inl x1), none, none] [] μ Q
  refine r_aloadn (q := 1) DM_X8_plainMark_0 rfl rfl ?_
  refine r_getR (q := 4) (r := 89) DM_X8_plainMark_1 rfl fRX8_25 sh_83 rfl ?_
  refine r_iloadn (q := 5) DM_X8_plainMark_4 rfl rfl ?_
  refine r_iconst (q := 6) (n := 0) DM_X8_plainMark_5 rfl ?_
  have i1 := h.1
  replace h := h.2
  refine r_callSi [.inr 89, .inl x1, .inl 0] (q := 9) DM_X8_plainMark_6 rfl kM_X8_of lRX8_158 rfl (by decide) (Nat.le_of_ble_eq_true rfl) rfl (k_X8_of sh_89 i1 ⟨_, rfl, ?_⟩)
  refine v_istoren (q := 10) (ls' := [some (.inr 83), some (.inl x1), some (.inl (μ 89 (13 + 13 * x1 + 0))), none]) DM_X8_plainMark_9 rfl (by decide) rfl ?_
  refine r_iloadn (q := 11) DM_X8_plainMark_10 rfl rfl ?_
  refine r_iconst (q := 12) (n := 1) DM_X8_plainMark_11 rfl ?_
  have i2 := h.1
  replace h := h.2
  refine r_iceq (q := 15) (t := 31) DM_X8_plainMark_12 rfl (by decide) ⟨⟨i2, (by decide)⟩, fun cc => ?_, fun cc => ?_⟩
  · replace h := h.1 cc
    exact h
  · replace h := h.2 cc
    refine r_aloadn (q := 16) DM_X8_plainMark_15 rfl rfl ?_
    refine r_iloadn (q := 17) DM_X8_plainMark_16 rfl rfl ?_
    refine r_iconst (q := 18) (n := 2) DM_X8_plainMark_17 rfl ?_
    refine r_icne (q := 21) (t := 26) DM_X8_plainMark_18 rfl (by decide) ⟨⟨i2, (by decide)⟩, fun cc => ?_, fun cc => ?_⟩
    · replace h := h.1 cc
      refine r_bipush (q := 28) (n := 22) DM_X8_plainMark_26 rfl (by decide) ?_
      refine r_callVv [.inl 22] (q := 31) DM_X8_plainMark_28 rfl kM_X8_begins lRX8_251 sh_83 rfl rfl (by decide) (Nat.le_of_ble_eq_true rfl) rfl (Cl.imp h (fun vv μ3 h => ?_))
      obtain ⟨hv, h⟩ := h
      refine ⟨hv, ?_⟩
      exact h
    · replace h := h.2 cc
      refine r_bipush (q := 23) (n := 24) DM_X8_plainMark_21 rfl (by decide) ?_
      refine r_goto (q := 28) DM_X8_plainMark_23 (by decide) ?_
      refine r_callVv [.inl 24] (q := 31) DM_X8_plainMark_28 rfl kM_X8_begins lRX8_251 sh_83 rfl rfl (by decide) (Nat.le_of_ble_eq_true rfl) rfl (Cl.imp h (fun vv μ5 h => ?_))
      obtain ⟨hv, h⟩ := h
      refine ⟨hv, ?_⟩
      exact h
set_option maxRecDepth 20000 in
theorem s_X8_plainMark_31 {E : Ex} {μ : Mem} {Q : Option Vl → Mem → Prop} {x1 x2 : Int}  (h : Cl E 0 M_X8_begins [.inr 83, .inl 21] μ (fun vv μ1 => vv = none ∧ Cl E 0 M_X8_begins [.inr 83, .inl 20] μ1 (fun vv μ3 => vv = none ∧ (0 ≤ 13 + 13 * x1 + 3 ∧ 13 + 13 * x1 + 3 < 91) ∧ inR x2 ∧ (x2 ≠ 2 → (x2 ≠ 3 → Q (some (.inl (x1 + (μ3 89 (13 + 13 * x1 + 3))))) μ3) ∧ (x2 = 3 → Q (some (.inl ((x1 + (μ3 89 (13 + 13 * x1 + 3))) - 1000))) μ3)) ∧ (x2 = 2 → Q (some (.inl (2 * (x1 + (μ3 89 (13 + 13 * x1 + 3)))))) μ3)))) : Gg E 1 M_X8_plainMark 31 [some (.inr 83), some (.inl x1), some (.inl x2), none] [] μ Q := by
  refine r_aloadn (q := 32) DM_X8_plainMark_31 rfl rfl ?_
  refine r_bipush (q := 34) (n := 21) DM_X8_plainMark_32 rfl (by decide) ?_
  refine r_callVv [.inl 21] (q := 37) DM_X8_plainMark_34 rfl kM_X8_begins lRX8_251 sh_83 rfl rfl (by decide) (Nat.le_of_ble_eq_true rfl) rfl (Cl.imp h (fun vv μ1 h => ?_))
  obtain ⟨hv, h⟩ := h
  refine ⟨hv, ?_⟩
  refine r_aloadn (q := 38) DM_X8_plainMark_37 rfl rfl ?_
  refine r_bipush (q := 40) (n := 20) DM_X8_plainMark_38 rfl (by decide) ?_
  refine r_callVv [.inl 20] (q := 43) DM_X8_plainMark_40 rfl kM_X8_begins lRX8_251 sh_83 rfl rfl (by decide) (Nat.le_of_ble_eq_true rfl) rfl (Cl.imp h (fun vv μ3 h => ?_))
  obtain ⟨hv, h⟩ := h
  refine ⟨hv, ?_⟩
  refine r_iloadn (q := 44) DM_X8_plainMark_43 rfl rfl ?_
  refine r_aloadn (q := 45) DM_X8_plainMark_44 rfl rfl ?_
  refine r_getR (q := 48) (r := 89) DM_X8_plainMark_45 rfl fRX8_25 sh_83 rfl ?_
  refine r_iloadn (q := 49) DM_X8_plainMark_48 rfl rfl ?_
  refine r_iconst (q := 50) (n := 3) DM_X8_plainMark_49 rfl ?_
  have i5 := h.1
  replace h := h.2
  refine r_callSi [.inr 89, .inl x1, .inl 3] (q := 53) DM_X8_plainMark_50 rfl kM_X8_of lRX8_158 rfl (by decide) (Nat.le_of_ble_eq_true rfl) rfl (k_X8_of sh_89 i5 ⟨_, rfl, ?_⟩)
  refine r_iadd (q := 54) DM_X8_plainMark_53 rfl ?_
  refine v_istoren (q := 55) (ls' := [some (.inr 83), some (.inl x1), some (.inl x2), some (.inl (x1 + (μ3 89 (13 + 13 * x1 + 3))))]) DM_X8_plainMark_54 rfl (by decide) rfl ?_
  refine r_iloadn (q := 56) DM_X8_plainMark_55 rfl rfl ?_
  refine r_iconst (q := 57) (n := 2) DM_X8_plainMark_56 rfl ?_
  have i6 := h.1
  replace h := h.2
  refine r_icne (q := 60) (t := 66) DM_X8_plainMark_57 rfl (by decide) ⟨⟨i6, (by decide)⟩, fun cc => ?_, fun cc => ?_⟩
  · replace h := h.1 cc
    refine r_iloadn (q := 67) DM_X8_plainMark_66 rfl rfl ?_
    refine r_iconst (q := 68) (n := 3) DM_X8_plainMark_67 rfl ?_
    refine r_icne (q := 71) (t := 79) DM_X8_plainMark_68 rfl (by decide) ⟨⟨i6, (by decide)⟩, fun cc => ?_, fun cc => ?_⟩
    · replace h := h.1 cc
      refine r_iloadn (q := 80) DM_X8_plainMark_79 rfl rfl ?_
      exact r_ret (v := some (.inl (x1 + (μ3 89 (13 + 13 * x1 + 3))))) ⟨DM_X8_plainMark_80, Or.inl rfl⟩ h
    · replace h := h.2 cc
      refine r_iloadn (q := 72) DM_X8_plainMark_71 rfl rfl ?_
      refine r_sipush (q := 75) (n := 1000) DM_X8_plainMark_72 rfl (by decide) ?_
      refine r_isub (q := 76) DM_X8_plainMark_75 rfl ?_
      refine r_goto (q := 80) DM_X8_plainMark_76 (by decide) ?_
      exact r_ret (v := some (.inl ((x1 + (μ3 89 (13 + 13 * x1 + 3))) - 1000))) ⟨DM_X8_plainMark_80, Or.inl rfl⟩ h
  · replace h := h.2 cc
    refine r_iconst (q := 61) (n := 2) DM_X8_plainMark_60 rfl ?_
    refine r_iloadn (q := 62) DM_X8_plainMark_61 rfl rfl ?_
    refine r_imul (q := 63) DM_X8_plainMark_62 rfl ?_
    refine r_goto (q := 80) DM_X8_plainMark_63 (by decide) ?_
    exact r_ret (v := some (.inl (2 * (x1 + (μ3 89 (13 + 13 * x1 + 3)))))) ⟨DM_X8_plainMark_80, Or.inl rfl⟩ h
set_option maxRecDepth 20000 in
theorem s_X8_saintSize {E : Ex} {μ : Mem} {Q : Option Vl → Mem → Prop} {x1 : Int}  (h : (0 ≤ 13 + 13 * x1 + 0 ∧ 13 + 13 * x1 + 0 < 91) ∧ inR (μ 89 (13 + 13 * x1 + 0)) ∧ ((μ 89 (13 + 13 * x1 + 0)) ≠ 5 → Gg E 1 M_X8_saintSize 29 [some (.inr 83), some (.inl x1), some (.inl 0), none] [] μ Q) ∧ ((μ 89 (13 + 13 * x1 + 0)) = 5 → Cl E 0 M_X8_begins [.inr 83, .inl 14] μ (fun vv μ3 => vv = none ∧ Gg E 1 M_X8_saintSize 29 [some (.inr 83), some (.inl x1), some (.inl 1), none] [] μ3 Q))) : Cl E 1 M_X8_saintSize [.inr 83, .inl x1] μ Q := by
  show Gg E 1 M_X8_saintSize 0 [some (.inr 83), some (.inl x1), none, none] [] μ Q
  refine r_aloadn (q := 1) DM_X8_saintSize_0 rfl rfl ?_
  refine r_getR (q := 4) (r := 89) DM_X8_saintSize_1 rfl fRX8_25 sh_83 rfl ?_
  refine r_iloadn (q := 5) DM_X8_saintSize_4 rfl rfl ?_
  refine r_iconst (q := 6) (n := 0) DM_X8_saintSize_5 rfl ?_
  have i1 := h.1
  replace h := h.2
  refine r_callSi [.inr 89, .inl x1, .inl 0] (q := 9) DM_X8_saintSize_6 rfl kM_X8_of lRX8_158 rfl (by decide) (Nat.le_of_ble_eq_true rfl) rfl (k_X8_of sh_89 i1 ⟨_, rfl, ?_⟩)
  refine r_iconst (q := 10) (n := 5) DM_X8_saintSize_9 rfl ?_
  have i2 := h.1
  replace h := h.2
  refine r_icne (q := 13) (t := 17) DM_X8_saintSize_10 rfl (by decide) ⟨⟨i2, (by decide)⟩, fun cc => ?_, fun cc => ?_⟩
  · replace h := h.1 cc
    refine r_iconst (q := 18) (n := 0) DM_X8_saintSize_17 rfl ?_
    refine v_istoren (q := 19) (ls' := [some (.inr 83), some (.inl x1), some (.inl 0), none]) DM_X8_saintSize_18 rfl (by decide) rfl ?_
    refine r_iloadn (q := 20) DM_X8_saintSize_19 rfl rfl ?_
    refine r_ifeq (q := 23) (t := 29) DM_X8_saintSize_20 rfl (by decide) ⟨(by decide), fun _ => ?_, fun cc => absurd cc (by decide)⟩
    exact h
  · replace h := h.2 cc
    refine r_iconst (q := 14) (n := 1) DM_X8_saintSize_13 rfl ?_
    refine r_goto (q := 18) DM_X8_saintSize_14 (by decide) ?_
    refine v_istoren (q := 19) (ls' := [some (.inr 83), some (.inl x1), some (.inl 1), none]) DM_X8_saintSize_18 rfl (by decide) rfl ?_
    refine r_iloadn (q := 20) DM_X8_saintSize_19 rfl rfl ?_
    refine r_ifeq (q := 23) (t := 29) DM_X8_saintSize_20 rfl (by decide) ⟨(by decide), fun cc => absurd cc (by decide), fun _ => ?_⟩
    refine r_aloadn (q := 24) DM_X8_saintSize_23 rfl rfl ?_
    refine r_bipush (q := 26) (n := 14) DM_X8_saintSize_24 rfl (by decide) ?_
    refine r_callVv [.inl 14] (q := 29) DM_X8_saintSize_26 rfl kM_X8_begins lRX8_251 sh_83 rfl rfl (by decide) (Nat.le_of_ble_eq_true rfl) rfl (Cl.imp h (fun vv μ3 h => ?_))
    obtain ⟨hv, h⟩ := h
    refine ⟨hv, ?_⟩
    exact h
set_option maxRecDepth 20000 in
theorem s_X8_saintSize_29 {E : Ex} {μ : Mem} {Q : Option Vl → Mem → Prop} {x1 x2 : Int}  (h : Cl E 0 M_X8_begins [.inr 83, .inl 13] μ (fun vv μ1 => vv = none ∧ Cl E 0 M_X8_begins [.inr 83, .inl 10] μ1 (fun vv μ3 => vv = none ∧ (0 ≤ 13 + 13 * x1 + 1 ∧ 13 + 13 * x1 + 1 < 91) ∧ inR x2 ∧ (x2 = 0 → Q (some (.inl ((μ3 89 (13 + 13 * x1 + 1)) - 100))) μ3) ∧ (¬ x2 = 0 → Q (some (.inl (2 * ((μ3 89 (13 + 13 * x1 + 1)) - 100)))) μ3)))) : Gg E 1 M_X8_saintSize 29 [some (.inr 83), some (.inl x1), some (.inl x2), none] [] μ Q := by
  refine r_aloadn (q := 30) DM_X8_saintSize_29 rfl rfl ?_
  refine r_bipush (q := 32) (n := 13) DM_X8_saintSize_30 rfl (by decide) ?_
  refine r_callVv [.inl 13] (q := 35) DM_X8_saintSize_32 rfl kM_X8_begins lRX8_251 sh_83 rfl rfl (by decide) (Nat.le_of_ble_eq_true rfl) rfl (Cl.imp h (fun vv μ1 h => ?_))
  obtain ⟨hv, h⟩ := h
  refine ⟨hv, ?_⟩
  refine r_aloadn (q := 36) DM_X8_saintSize_35 rfl rfl ?_
  refine r_bipush (q := 38) (n := 10) DM_X8_saintSize_36 rfl (by decide) ?_
  refine r_callVv [.inl 10] (q := 41) DM_X8_saintSize_38 rfl kM_X8_begins lRX8_251 sh_83 rfl rfl (by decide) (Nat.le_of_ble_eq_true rfl) rfl (Cl.imp h (fun vv μ3 h => ?_))
  obtain ⟨hv, h⟩ := h
  refine ⟨hv, ?_⟩
  refine r_aloadn (q := 42) DM_X8_saintSize_41 rfl rfl ?_
  refine r_getR (q := 45) (r := 89) DM_X8_saintSize_42 rfl fRX8_25 sh_83 rfl ?_
  refine r_iloadn (q := 46) DM_X8_saintSize_45 rfl rfl ?_
  refine r_iconst (q := 47) (n := 1) DM_X8_saintSize_46 rfl ?_
  have i5 := h.1
  replace h := h.2
  refine r_callSi [.inr 89, .inl x1, .inl 1] (q := 50) DM_X8_saintSize_47 rfl kM_X8_of lRX8_158 rfl (by decide) (Nat.le_of_ble_eq_true rfl) rfl (k_X8_of sh_89 i5 ⟨_, rfl, ?_⟩)
  refine r_bipush (q := 52) (n := 100) DM_X8_saintSize_50 rfl (by decide) ?_
  refine r_isub (q := 53) DM_X8_saintSize_52 rfl ?_
  refine v_istoren (q := 54) (ls' := [some (.inr 83), some (.inl x1), some (.inl x2), some (.inl ((μ3 89 (13 + 13 * x1 + 1)) - 100))]) DM_X8_saintSize_53 rfl (by decide) rfl ?_
  refine r_iloadn (q := 55) DM_X8_saintSize_54 rfl rfl ?_
  have i6 := h.1
  replace h := h.2
  refine r_ifeq (q := 58) (t := 64) DM_X8_saintSize_55 rfl (by decide) ⟨i6, fun cc => ?_, fun cc => ?_⟩
  · replace h := h.1 cc
    refine r_iloadn (q := 65) DM_X8_saintSize_64 rfl rfl ?_
    exact r_ret (v := some (.inl ((μ3 89 (13 + 13 * x1 + 1)) - 100))) ⟨DM_X8_saintSize_65, Or.inl rfl⟩ h
  · replace h := h.2 cc
    refine r_iconst (q := 59) (n := 2) DM_X8_saintSize_58 rfl ?_
    refine r_iloadn (q := 60) DM_X8_saintSize_59 rfl rfl ?_
    refine r_imul (q := 61) DM_X8_saintSize_60 rfl ?_
    refine r_goto (q := 65) DM_X8_saintSize_61 (by decide) ?_
    exact r_ret (v := some (.inl (2 * ((μ3 89 (13 + 13 * x1 + 1)) - 100)))) ⟨DM_X8_saintSize_65, Or.inl rfl⟩ h
set_option maxRecDepth 20000 in
theorem s_X8_plainSize {E : Ex} {μ : Mem} {Q : Option Vl → Mem → Prop} {x1 : Int}  (h : (0 ≤ 13 + 13 * x1 + 0 ∧ 13 + 13 * x1 + 0 < 91) ∧ inR (μ 89 (13 + 13 * x1 + 0)) ∧ ((μ 89 (13 + 13 * x1 + 0)) ≠ 2 → Gg E 2 M_X8_plainSize 29 [some (.inr 83), some (.inl x1), some (.inl 0), none] [] μ Q) ∧ ((μ 89 (13 + 13 * x1 + 0)) = 2 → Cl E 0 M_X8_begins [.inr 83, .inl 12] μ (fun vv μ3 => vv = none ∧ Gg E 2 M_X8_plainSize 29 [some (.inr 83), some (.inl x1), some (.inl 1), none] [] μ3 Q))) : Cl E 2 M_X8_plainSize [.inr 83, .inl x1] μ Q := by
  show Gg E 2 M_X8_plainSize 0 [some (.inr 83), some (.inl x1), none, none] [] μ Q
  refine r_aloadn (q := 1) DM_X8_plainSize_0 rfl rfl ?_
  refine r_getR (q := 4) (r := 89) DM_X8_plainSize_1 rfl fRX8_25 sh_83 rfl ?_
  refine r_iloadn (q := 5) DM_X8_plainSize_4 rfl rfl ?_
  refine r_iconst (q := 6) (n := 0) DM_X8_plainSize_5 rfl ?_
  have i1 := h.1
  replace h := h.2
  refine r_callSi [.inr 89, .inl x1, .inl 0] (q := 9) DM_X8_plainSize_6 rfl kM_X8_of lRX8_158 rfl (by decide) (Nat.le_of_ble_eq_true rfl) rfl (k_X8_of sh_89 i1 ⟨_, rfl, ?_⟩)
  refine r_iconst (q := 10) (n := 2) DM_X8_plainSize_9 rfl ?_
  have i2 := h.1
  replace h := h.2
  refine r_icne (q := 13) (t := 17) DM_X8_plainSize_10 rfl (by decide) ⟨⟨i2, (by decide)⟩, fun cc => ?_, fun cc => ?_⟩
  · replace h := h.1 cc
    refine r_iconst (q := 18) (n := 0) DM_X8_plainSize_17 rfl ?_
    refine v_istoren (q := 19) (ls' := [some (.inr 83), some (.inl x1), some (.inl 0), none]) DM_X8_plainSize_18 rfl (by decide) rfl ?_
    refine r_iloadn (q := 20) DM_X8_plainSize_19 rfl rfl ?_
    refine r_ifeq (q := 23) (t := 29) DM_X8_plainSize_20 rfl (by decide) ⟨(by decide), fun _ => ?_, fun cc => absurd cc (by decide)⟩
    exact h
  · replace h := h.2 cc
    refine r_iconst (q := 14) (n := 1) DM_X8_plainSize_13 rfl ?_
    refine r_goto (q := 18) DM_X8_plainSize_14 (by decide) ?_
    refine v_istoren (q := 19) (ls' := [some (.inr 83), some (.inl x1), some (.inl 1), none]) DM_X8_plainSize_18 rfl (by decide) rfl ?_
    refine r_iloadn (q := 20) DM_X8_plainSize_19 rfl rfl ?_
    refine r_ifeq (q := 23) (t := 29) DM_X8_plainSize_20 rfl (by decide) ⟨(by decide), fun cc => absurd cc (by decide), fun _ => ?_⟩
    refine r_aloadn (q := 24) DM_X8_plainSize_23 rfl rfl ?_
    refine r_bipush (q := 26) (n := 12) DM_X8_plainSize_24 rfl (by decide) ?_
    refine r_callVv [.inl 12] (q := 29) DM_X8_plainSize_26 rfl kM_X8_begins lRX8_251 sh_83 rfl rfl (by decide) (Nat.le_of_ble_eq_true rfl) rfl (Cl.imp h (fun vv μ3 h => ?_))
    obtain ⟨hv, h⟩ := h
    refine ⟨hv, ?_⟩
    exact h
set_option maxRecDepth 20000 in
theorem s_X8_plainSize_29 {E : Ex} {μ : Mem} {Q : Option Vl → Mem → Prop} {x1 x2 : Int}  (h : Cl E 0 M_X8_begins [.inr 83, .inl 11] μ (fun vv μ1 => vv = none ∧ Cl E 0 M_X8_begins [.inr 83, .inl 10] μ1 (fun vv μ3 => vv = none ∧ (0 ≤ 13 + 13 * x1 + 1 ∧ 13 + 13 * x1 + 1 < 91) ∧ Cl E 1 M_X8_plainMark [.inr 83, .inl x1] μ3 (fun vv μ6 => ∃ v7, vv = some (.inl v7) ∧ inR x2 ∧ (x2 = 0 → Q (some (.inl ((μ3 89 (13 + 13 * x1 + 1)) + v7))) μ6) ∧ (¬ x2 = 0 → Q (some (.inl (-((μ3 89 (13 + 13 * x1 + 1)) + v7)))) μ6))))) : Gg E 2 M_X8_plainSize 29 [some (.inr 83), some (.inl x1), some (.inl x2), none] [] μ Q := by
  refine r_aloadn (q := 30) DM_X8_plainSize_29 rfl rfl ?_
  refine r_bipush (q := 32) (n := 11) DM_X8_plainSize_30 rfl (by decide) ?_
  refine r_callVv [.inl 11] (q := 35) DM_X8_plainSize_32 rfl kM_X8_begins lRX8_251 sh_83 rfl rfl (by decide) (Nat.le_of_ble_eq_true rfl) rfl (Cl.imp h (fun vv μ1 h => ?_))
  obtain ⟨hv, h⟩ := h
  refine ⟨hv, ?_⟩
  refine r_aloadn (q := 36) DM_X8_plainSize_35 rfl rfl ?_
  refine r_bipush (q := 38) (n := 10) DM_X8_plainSize_36 rfl (by decide) ?_
  refine r_callVv [.inl 10] (q := 41) DM_X8_plainSize_38 rfl kM_X8_begins lRX8_251 sh_83 rfl rfl (by decide) (Nat.le_of_ble_eq_true rfl) rfl (Cl.imp h (fun vv μ3 h => ?_))
  obtain ⟨hv, h⟩ := h
  refine ⟨hv, ?_⟩
  refine r_aloadn (q := 42) DM_X8_plainSize_41 rfl rfl ?_
  refine r_getR (q := 45) (r := 89) DM_X8_plainSize_42 rfl fRX8_25 sh_83 rfl ?_
  refine r_iloadn (q := 46) DM_X8_plainSize_45 rfl rfl ?_
  refine r_iconst (q := 47) (n := 1) DM_X8_plainSize_46 rfl ?_
  have i5 := h.1
  replace h := h.2
  refine r_callSi [.inr 89, .inl x1, .inl 1] (q := 50) DM_X8_plainSize_47 rfl kM_X8_of lRX8_158 rfl (by decide) (Nat.le_of_ble_eq_true rfl) rfl (k_X8_of sh_89 i5 ⟨_, rfl, ?_⟩)
  refine r_aloadn (q := 51) DM_X8_plainSize_50 rfl rfl ?_
  refine r_iloadn (q := 52) DM_X8_plainSize_51 rfl rfl ?_
  refine r_callVi [.inl x1] (q := 55) DM_X8_plainSize_52 rfl kM_X8_plainMark lRX8_254 sh_83 rfl rfl (by decide) (Nat.le_of_ble_eq_true rfl) rfl (Cl.imp h (fun vv μ6 h => ?_))
  obtain ⟨v7, hv, h⟩ := h
  refine ⟨v7, hv, ?_⟩
  refine r_iadd (q := 56) DM_X8_plainSize_55 rfl ?_
  refine v_istoren (q := 57) (ls' := [some (.inr 83), some (.inl x1), some (.inl x2), some (.inl ((μ3 89 (13 + 13 * x1 + 1)) + v7))]) DM_X8_plainSize_56 rfl (by decide) rfl ?_
  refine r_iloadn (q := 58) DM_X8_plainSize_57 rfl rfl ?_
  have i8 := h.1
  replace h := h.2
  refine r_ifeq (q := 61) (t := 66) DM_X8_plainSize_58 rfl (by decide) ⟨i8, fun cc => ?_, fun cc => ?_⟩
  · replace h := h.1 cc
    refine r_iloadn (q := 67) DM_X8_plainSize_66 rfl rfl ?_
    exact r_ret (v := some (.inl ((μ3 89 (13 + 13 * x1 + 1)) + v7))) ⟨DM_X8_plainSize_67, Or.inl rfl⟩ h
  · replace h := h.2 cc
    refine r_iloadn (q := 62) DM_X8_plainSize_61 rfl rfl ?_
    refine r_ineg (q := 63) DM_X8_plainSize_62 rfl ?_
    refine r_goto (q := 67) DM_X8_plainSize_63 (by decide) ?_
    exact r_ret (v := some (.inl (-((μ3 89 (13 + 13 * x1 + 1)) + v7)))) ⟨DM_X8_plainSize_67, Or.inl rfl⟩ h
set_option maxRecDepth 20000 in
theorem s_X8_saintMark {E : Ex} {μ : Mem} {Q : Option Vl → Mem → Prop} {x1 : Int}  (h : Cl E 0 M_X8_begins [.inr 83, .inl 23] μ (fun vv μ1 => vv = none ∧ Cl E 0 M_X8_begins [.inr 83, .inl 20] μ1 (fun vv μ3 => vv = none ∧ Cl E 1 M_X8_saintSize [.inr 83, .inl x1] μ3 (fun vv μ5 => ∃ v6, vv = some (.inl v6) ∧ Q (some (.inl (x1 - v6))) μ5)))) : Cl E 2 M_X8_saintMark [.inr 83, .inl x1] μ Q := by
  show Gg E 2 M_X8_saintMark 0 [some (.inr 83), some (.inl x1)] [] μ Q
  refine r_aloadn (q := 1) DM_X8_saintMark_0 rfl rfl ?_
  refine r_bipush (q := 3) (n := 23) DM_X8_saintMark_1 rfl (by decide) ?_
  refine r_callVv [.inl 23] (q := 6) DM_X8_saintMark_3 rfl kM_X8_begins lRX8_251 sh_83 rfl rfl (by decide) (Nat.le_of_ble_eq_true rfl) rfl (Cl.imp h (fun vv μ1 h => ?_))
  obtain ⟨hv, h⟩ := h
  refine ⟨hv, ?_⟩
  refine r_aloadn (q := 7) DM_X8_saintMark_6 rfl rfl ?_
  refine r_bipush (q := 9) (n := 20) DM_X8_saintMark_7 rfl (by decide) ?_
  refine r_callVv [.inl 20] (q := 12) DM_X8_saintMark_9 rfl kM_X8_begins lRX8_251 sh_83 rfl rfl (by decide) (Nat.le_of_ble_eq_true rfl) rfl (Cl.imp h (fun vv μ3 h => ?_))
  obtain ⟨hv, h⟩ := h
  refine ⟨hv, ?_⟩
  refine r_iloadn (q := 13) DM_X8_saintMark_12 rfl rfl ?_
  refine r_aloadn (q := 14) DM_X8_saintMark_13 rfl rfl ?_
  refine r_iloadn (q := 15) DM_X8_saintMark_14 rfl rfl ?_
  refine r_callVi [.inl x1] (q := 18) DM_X8_saintMark_15 rfl kM_X8_saintSize lRX8_257 sh_83 rfl rfl (by decide) (Nat.le_of_ble_eq_true rfl) rfl (Cl.imp h (fun vv μ5 h => ?_))
  obtain ⟨v6, hv, h⟩ := h
  refine ⟨v6, hv, ?_⟩
  refine r_isub (q := 19) DM_X8_saintMark_18 rfl ?_
  exact r_ret (v := some (.inl (x1 - v6))) ⟨DM_X8_saintMark_19, Or.inl rfl⟩ h
set_option maxRecDepth 20000 in
theorem s_X8_ask {E : Ex} {μ : Mem} {Q : Option Vl → Mem → Prop} {x1 x2 : Int}  (ix1 : inR x1) (ix2 : inR x2) (h : inR (μ 89 2 - 1) ∧ (¬ (0 ≤ x1 ∧ x1 ≤ μ 89 2 - 1) → Q (some (.inl (-1000001))) μ) ∧ ((0 ≤ x1 ∧ x1 ≤ μ 89 2 - 1) → ((0 ≤ x2 ∧ x2 ≤ 1) → ∀ μ2 : Mem, μ2 = up μ 83 21 0 → (0 ≤ 13 + 13 * x1 + 0 ∧ 13 + 13 * x1 + 0 < 91) ∧ inR (μ2 89 (13 + 13 * x1 + 0)) ∧ ((μ2 89 (13 + 13 * x1 + 0)) < 4 → Gg E 3 M_X8_ask 43 [some (.inr 83), some (.inl x1), some (.inl x2), none] [.inl 0] μ2 Q) ∧ (¬ (μ2 89 (13 + 13 * x1 + 0)) < 4 → Gg E 3 M_X8_ask 43 [some (.inr 83), some (.inl x1), some (.inl x2), none] [.inl 1] μ2 Q)) ∧ (¬ (0 ≤ x2 ∧ x2 ≤ 1) → Q (some (.inl (-1000001))) μ))) : Cl E 3 M_X8_ask [.inr 83, .inl x1, .inl x2] μ Q := by
  show Gg E 3 M_X8_ask 0 [some (.inr 83), some (.inl x1), some (.inl x2), none] [] μ Q
  refine r_aloadn (q := 1) DM_X8_ask_0 rfl rfl ?_
  refine r_iloadn (q := 2) DM_X8_ask_1 rfl rfl ?_
  have i1 := h.1
  replace h := h.2
  refine r_callVi [.inl x1] (q := 5) DM_X8_ask_2 rfl kM_X8_isPerson lRX8_210 sh_83 rfl rfl (by decide) (Nat.le_of_ble_eq_true rfl) rfl (k_X8_isPerson ix1 i1 ⟨_, rfl, ?_⟩)
  refine r_bieq (q := 8) (t := 17) DM_X8_ask_5 rfl (by decide) ⟨fun cc => ?_, fun cc => ?_⟩
  · replace h := h.1 cc
    refine r_ldc (q := 19) (n := (-1000001)) DM_X8_ask_17 rfl nRX8_73 ?_
    exact r_ret (v := some (.inl (-1000001))) ⟨DM_X8_ask_19, Or.inl rfl⟩ h
  · replace h := h.2 cc
    refine r_iloadn (q := 9) DM_X8_ask_8 rfl rfl ?_
    refine r_iconst (q := 10) (n := 0) DM_X8_ask_9 rfl ?_
    refine r_iconst (q := 11) (n := 1) DM_X8_ask_10 rfl ?_
    refine r_callSi [.inl x2, .inl 0, .inl 1] (q := 14) DM_X8_ask_11 rfl kM_X8_in lRX8_65 rfl (by decide) (Nat.le_of_ble_eq_true rfl) rfl (k_X8_in ix2 (by decide) (by decide) ⟨_, rfl, ?_⟩)
    refine r_bine (q := 17) (t := 20) DM_X8_ask_14 rfl (by decide) ⟨fun cc => ?_, fun cc => ?_⟩
    · replace h := h.1 cc
      refine r_aloadn (q := 21) DM_X8_ask_20 rfl rfl ?_
      refine r_iconst (q := 22) (n := 0) DM_X8_ask_21 rfl ?_
      refine v_put (q := 25) (ji := 21) DM_X8_ask_22 rfl pfRX8_248 sh_83 rfl rfl (Or.inl rfl) (fun μ2 e2 => ?_)
      replace h := h μ2 e2
      refine r_aloadn (q := 26) DM_X8_ask_25 rfl rfl ?_
      refine r_getR (q := 29) (r := 89) DM_X8_ask_26 rfl fRX8_25 sh_83 rfl ?_
      refine r_iloadn (q := 30) DM_X8_ask_29 rfl rfl ?_
      refine r_iconst (q := 31) (n := 0) DM_X8_ask_30 rfl ?_
      have i3 := h.1
      replace h := h.2
      refine r_callSi [.inr 89, .inl x1, .inl 0] (q := 34) DM_X8_ask_31 rfl kM_X8_of lRX8_158 rfl (by decide) (Nat.le_of_ble_eq_true rfl) rfl (k_X8_of sh_89 i3 ⟨_, rfl, ?_⟩)
      refine r_iconst (q := 35) (n := 4) DM_X8_ask_34 rfl ?_
      have i4 := h.1
      replace h := h.2
      refine r_iclt (q := 38) (t := 42) DM_X8_ask_35 rfl (by decide) ⟨⟨i4, (by decide)⟩, fun cc => ?_, fun cc => ?_⟩
      · replace h := h.1 cc
        refine r_iconst (q := 43) (n := 0) DM_X8_ask_42 rfl ?_
        exact h
      · replace h := h.2 cc
        refine r_iconst (q := 39) (n := 1) DM_X8_ask_38 rfl ?_
        refine r_goto (q := 43) DM_X8_ask_39 (by decide) ?_
        exact h
    · replace h := h.2 cc
      refine r_ldc (q := 19) (n := (-1000001)) DM_X8_ask_17 rfl nRX8_73 ?_
      exact r_ret (v := some (.inl (-1000001))) ⟨DM_X8_ask_19, Or.inl rfl⟩ h
set_option maxRecDepth 20000 in
theorem s_X8_ask_43 {E : Ex} {μ : Mem} {Q : Option Vl → Mem → Prop} {x1 x2 y0 : Int}  (h : inR x2 ∧ (x2 ≠ 0 → inR y0 ∧ (y0 = 0 → Cl E 1 M_X8_plainMark [.inr 83, .inl x1] μ (fun vv μ3 => ∃ v4, vv = some (.inl v4) ∧ Q (some (.inl v4)) μ3)) ∧ (¬ y0 = 0 → Cl E 2 M_X8_saintMark [.inr 83, .inl x1] μ (fun vv μ5 => ∃ v6, vv = some (.inl v6) ∧ Q (some (.inl v6)) μ5))) ∧ (x2 = 0 → inR y0 ∧ (y0 = 0 → Cl E 2 M_X8_plainSize [.inr 83, .inl x1] μ (fun vv μ8 => ∃ v9, vv = some (.inl v9) ∧ Q (some (.inl v9)) μ8)) ∧ (¬ y0 = 0 → Cl E 1 M_X8_saintSize [.inr 83, .inl x1] μ (fun vv μ10 => ∃ v11, vv = some (.inl v11) ∧ Q (some (.inl v11)) μ10)))) : Gg E 3 M_X8_ask 43 [some (.inr 83), some (.inl x1), some (.inl x2), none] [.inl y0] μ Q := by
  refine v_istoren (q := 44) (ls' := [some (.inr 83), some (.inl x1), some (.inl x2), some (.inl y0)]) DM_X8_ask_43 rfl (by decide) rfl ?_
  refine r_iloadn (q := 45) DM_X8_ask_44 rfl rfl ?_
  have i1 := h.1
  replace h := h.2
  refine r_ifne (q := 48) (t := 66) DM_X8_ask_45 rfl (by decide) ⟨i1, fun cc => ?_, fun cc => ?_⟩
  · replace h := h.1 cc
    refine r_iloadn (q := 67) DM_X8_ask_66 rfl rfl ?_
    have i2 := h.1
    replace h := h.2
    refine r_ifeq (q := 70) (t := 78) DM_X8_ask_67 rfl (by decide) ⟨i2, fun cc => ?_, fun cc => ?_⟩
    · replace h := h.1 cc
      refine r_aloadn (q := 79) DM_X8_ask_78 rfl rfl ?_
      refine r_iloadn (q := 80) DM_X8_ask_79 rfl rfl ?_
      refine r_callVi [.inl x1] (q := 83) DM_X8_ask_80 rfl kM_X8_plainMark lRX8_254 sh_83 rfl rfl (by decide) (Nat.le_of_ble_eq_true rfl) rfl (Cl.imp h (fun vv μ3 h => ?_))
      obtain ⟨v4, hv, h⟩ := h
      refine ⟨v4, hv, ?_⟩
      exact r_ret (v := some (.inl v4)) ⟨DM_X8_ask_83, Or.inl rfl⟩ h
    · replace h := h.2 cc
      refine r_aloadn (q := 71) DM_X8_ask_70 rfl rfl ?_
      refine r_iloadn (q := 72) DM_X8_ask_71 rfl rfl ?_
      refine r_callVi [.inl x1] (q := 75) DM_X8_ask_72 rfl kM_X8_saintMark lRX8_263 sh_83 rfl rfl (by decide) (Nat.le_of_ble_eq_true rfl) rfl (Cl.imp h (fun vv μ5 h => ?_))
      obtain ⟨v6, hv, h⟩ := h
      refine ⟨v6, hv, ?_⟩
      refine r_goto (q := 83) DM_X8_ask_75 (by decide) ?_
      exact r_ret (v := some (.inl v6)) ⟨DM_X8_ask_83, Or.inl rfl⟩ h
  · replace h := h.2 cc
    refine r_iloadn (q := 49) DM_X8_ask_48 rfl rfl ?_
    have i7 := h.1
    replace h := h.2
    refine r_ifeq (q := 52) (t := 60) DM_X8_ask_49 rfl (by decide) ⟨i7, fun cc => ?_, fun cc => ?_⟩
    · replace h := h.1 cc
      refine r_aloadn (q := 61) DM_X8_ask_60 rfl rfl ?_
      refine r_iloadn (q := 62) DM_X8_ask_61 rfl rfl ?_
      refine r_callVi [.inl x1] (q := 65) DM_X8_ask_62 rfl kM_X8_plainSize lRX8_260 sh_83 rfl rfl (by decide) (Nat.le_of_ble_eq_true rfl) rfl (Cl.imp h (fun vv μ8 h => ?_))
      obtain ⟨v9, hv, h⟩ := h
      refine ⟨v9, hv, ?_⟩
      exact r_ret (v := some (.inl v9)) ⟨DM_X8_ask_65, Or.inl rfl⟩ h
    · replace h := h.2 cc
      refine r_aloadn (q := 53) DM_X8_ask_52 rfl rfl ?_
      refine r_iloadn (q := 54) DM_X8_ask_53 rfl rfl ?_
      refine r_callVi [.inl x1] (q := 57) DM_X8_ask_54 rfl kM_X8_saintSize lRX8_257 sh_83 rfl rfl (by decide) (Nat.le_of_ble_eq_true rfl) rfl (Cl.imp h (fun vv μ10 h => ?_))
      obtain ⟨v11, hv, h⟩ := h
      refine ⟨v11, hv, ?_⟩
      refine r_goto (q := 65) DM_X8_ask_57 (by decide) ?_
      exact r_ret (v := some (.inl v11)) ⟨DM_X8_ask_65, Or.inl rfl⟩ h
def tr7 (μ μ1 : Mem) (L : List Int) : Prop := μ1 45 1 = (L.length : Int) ∧ (∀ j : Nat, j < L.length → μ1 46 j = L.getD j 0) ∧ ∀ k, k ≠ 45 → k ≠ 46 → μ1 k = μ k
def tr8 (μ μ1 : Mem) (L : List Int) : Prop := μ1 83 21 = (L.length : Int) ∧ (∀ j : Nat, j < L.length → μ1 95 j = L.getD j 0) ∧ (∀ i, i ≠ 21 → μ1 83 i = μ 83 i) ∧ ∀ k, k ≠ 83 → k ≠ 95 → μ1 k = μ k
def mkL (k : Int) : List Int := if k = 1 then [21, 20] else if k = 2 then [24, 21, 20] else [22, 21, 20]
def mkV (k v : Int) : Int := if k = 1 then v else if k = 2 then 2 * v else v - 1000
def szL (k : Int) : List Int := if k = 5 then [14, 13, 10] else [13, 10]
def szV (k v : Int) : Int := if k = 5 then 2 * (v - 100) else v - 100
def plL (k : Int) : List Int := if k = 2 then [12, 11, 10, 24, 21, 20] else [11, 10] ++ mkL k
def plV (k t v : Int) : Int := if k = 2 then -(t + mkV k v) else t + mkV k v
theorem getD_snoc {L : List Int} {x : Int} {j : Nat} (hj : j < (L ++ [x]).length) : (L ++ [x]).getD j 0 = if j < L.length then L.getD j 0 else x := by
  by_cases h : j < L.length
  · rw [if_pos h, List.getD_eq_getElem?_getD, List.getD_eq_getElem?_getD, List.getElem?_append_left h]
  · rw [if_neg h]
    have : j = L.length := by rw [List.length_append, List.length_singleton] at hj; omega
    subst this
    rw [List.getD_eq_getElem?_getD, List.getElem?_append_right (Nat.le_refl _)]
    simp
section P57
variable {E : Ex} {μ m : Mem} {Q : Option Vl → Mem → Prop} {x1 x2 x3 p dp : Int} {L : List Int} {d : Nat}
theorem k_X1_leave (h : tr7 m μ L) (hl : L.length < 16) (hq : ∀ μ1 : Mem, tr7 m μ1 (L ++ [x1]) → Q none μ1) : Cl E 0 M_X1_leave [.inr 45, .inl x1] μ Q := by
  obtain ⟨h1, h2, h3⟩ := h
  refine s_X1_leave ⟨by omega, fun z => absurd z (by omega), fun _ => ⟨by omega, fun μ2 e2 μ4 e4 => hq μ4 ⟨?_, fun j hj => ?_, fun k k1 k2 => ?_⟩⟩⟩
  · rw [e4, up_self, e2, up_ne (by decide), h1, List.length_append, List.length_singleton]; omega
  · rw [getD_snoc hj, e4, up_ne (by decide), e2]
    rw [List.length_append, List.length_singleton] at hj
    by_cases e : j < L.length
    · rw [if_pos e, up_off (Or.inr (by omega))]; exact h2 j e
    · rw [if_neg e, show (j : Int) = μ 45 1 by omega, up_self]
  · rw [e4, up_ne k1, e2, up_ne k2]; exact h3 k k1 k2
theorem k_X8_begins (h : tr8 m μ L) (hl : L.length < 16) (hq : ∀ μ1 : Mem, tr8 m μ1 (L ++ [x1]) → Q none μ1) : Cl E 0 M_X8_begins [.inr 83, .inl x1] μ Q := by
  obtain ⟨h1, h2, h3, h4⟩ := h
  refine s_X8_begins ⟨by omega, fun z => absurd z (by omega), fun _ => ⟨by omega, fun μ2 e2 μ4 e4 => hq μ4 ⟨?_, fun j hj => ?_, fun i hi => ?_, fun k k1 k2 => ?_⟩⟩⟩
  · rw [e4, up_self, e2, up_ne (by decide), h1, List.length_append, List.length_singleton]; omega
  · rw [getD_snoc hj, e4, up_ne (by decide), e2]
    rw [List.length_append, List.length_singleton] at hj
    by_cases e : j < L.length
    · rw [if_pos e, up_off (Or.inr (by omega))]; exact h2 j e
    · rw [if_neg e, show (j : Int) = μ 83 21 by omega, up_self]
  · rw [e4, up_off (Or.inr hi), e2, up_ne (by decide)]; exact h3 i hi
  · rw [e4, up_ne k1, e2, up_ne k2]; exact h4 k k1 k2
theorem give_10 (hd : 1 ≤ d) (hp : 0 ≤ p ∧ p < 6) (hx : 0 ≤ dp ∧ dp ≤ 12) (h : tr7 m μ L) (hl : L.length < 16) (hq : ∀ μ1 : Mem, tr7 m μ1 (L ++ [10]) → Q (some (.inl (m (4 + 6) p))) μ1) : Cl E (d + 1) M_X1_give [.inr 45, .inr 4, .inl p, .inl 10, .inl dp] μ Q := by
  refine s_X1_give hd ⟨by omega, fun _ => k_X1_leave h hl (fun μ1 h1 => ⟨rfl, hp, by decide, ?_, fun _ => ?_, ?_, ?_, ?_, ?_, ?_, ?_, ?_, ?_, ?_, ?_, ?_, ?_, ?_, ?_, trivial⟩), fun z => absurd hx.2 z⟩
  rotate_left
  · have := hq μ1 h1
    rwa [h1.2.2 (4 + 6) (by decide) (by decide)]
  all_goals exact fun q => absurd q (by decide)
theorem give_20 (hd : 1 ≤ d) (hp : 0 ≤ p ∧ p < 6) (hx : 0 ≤ dp ∧ dp ≤ 12) (h : tr7 m μ L) (hl : L.length < 16) (hq : ∀ μ1 : Mem, tr7 m μ1 (L ++ [20]) → Q (some (.inl p)) μ1) : Cl E (d + 1) M_X1_give [.inr 45, .inr 4, .inl p, .inl 20, .inl dp] μ Q := by
  refine s_X1_give hd ⟨by omega, fun _ => k_X1_leave h hl (fun μ1 h1 => ⟨rfl, hp, by decide, ?_, ?_, ?_, ?_, ?_, ?_, ?_, ?_, ?_, ?_, ?_, fun _ => hq μ1 h1, ?_, ?_, ?_, ?_, trivial⟩), fun z => absurd hx.2 z⟩
  all_goals exact fun q => absurd q (by decide)
theorem give_21 (hd : 2 ≤ d) (hp : 0 ≤ p ∧ p < 6) (hx : 0 ≤ dp ∧ dp ≤ 11) (h : tr7 m μ L) (hl : L.length < 15) (hq : ∀ μ1 : Mem, tr7 m μ1 (L ++ [21, 20]) → Q (some (.inl (p + m (4 + 4) p))) μ1) : Cl E (d + 1) M_X1_give [.inr 45, .inr 4, .inl p, .inl 21, .inl dp] μ Q := by
  obtain ⟨d, rfl⟩ : ∃ d', d = d' + 1 := ⟨d - 1, by omega⟩
  refine s_X1_give (by omega) ⟨by omega, fun _ => k_X1_leave h (by omega) (fun μ1 h1 => ⟨rfl, hp, by decide, ?_, ?_, ?_, ?_, ?_, ?_, ?_, ?_, ?_, ?_, ?_, ?_, fun _ => give_20 (by omega) hp (by omega) h1 (by rw [List.length_append, List.length_singleton]; omega) (fun μ2 h2 => ⟨_, rfl, ?_⟩), ?_, ?_, ?_, trivial⟩), fun z => absurd (by omega) z⟩
  rotate_left 12
  · have := hq μ2 (by simpa using h2)
    rwa [h2.2.2 (4 + 4) (by decide) (by decide)]
  all_goals exact fun q => absurd q (by decide)
theorem give_22 (hd : 3 ≤ d) (hp : 0 ≤ p ∧ p < 6) (hx : 0 ≤ dp ∧ dp ≤ 10) (h : tr7 m μ L) (hl : L.length < 14) (hq : ∀ μ1 : Mem, tr7 m μ1 (L ++ [22, 21, 20]) → Q (some (.inl (p + m (4 + 4) p - 1000))) μ1) : Cl E (d + 1) M_X1_give [.inr 45, .inr 4, .inl p, .inl 22, .inl dp] μ Q := by
  obtain ⟨d, rfl⟩ : ∃ d', d = d' + 1 := ⟨d - 1, by omega⟩
  refine s_X1_give (by omega) ⟨by omega, fun _ => k_X1_leave h (by omega) (fun μ1 h1 => ⟨rfl, hp, by decide, ?_, ?_, ?_, ?_, ?_, ?_, ?_, ?_, ?_, ?_, ?_, ?_, ?_, fun _ => give_21 (by omega) hp (by omega) h1 (by rw [List.length_append, List.length_singleton]; omega) (fun μ2 h2 => ⟨_, rfl, hq μ2 (by simpa using h2)⟩), ?_, ?_, trivial⟩), fun z => absurd (by omega) z⟩
  all_goals exact fun q => absurd q (by decide)
theorem give_24 (hd : 3 ≤ d) (hp : 0 ≤ p ∧ p < 6) (hx : 0 ≤ dp ∧ dp ≤ 10) (h : tr7 m μ L) (hl : L.length < 14) (hq : ∀ μ1 : Mem, tr7 m μ1 (L ++ [24, 21, 20]) → Q (some (.inl ((p + m (4 + 4) p) * 2))) μ1) : Cl E (d + 1) M_X1_give [.inr 45, .inr 4, .inl p, .inl 24, .inl dp] μ Q := by
  obtain ⟨d, rfl⟩ : ∃ d', d = d' + 1 := ⟨d - 1, by omega⟩
  refine s_X1_give (by omega) ⟨by omega, fun _ => k_X1_leave h (by omega) (fun μ1 h1 => ⟨rfl, hp, by decide, ?_, ?_, ?_, ?_, ?_, ?_, ?_, ?_, ?_, ?_, ?_, ?_, ?_, ?_, ?_, fun _ => give_21 (by omega) hp (by omega) h1 (by rw [List.length_append, List.length_singleton]; omega) (fun μ2 h2 => ⟨_, rfl, hq μ2 (by simpa using h2)⟩), trivial⟩), fun z => absurd (by omega) z⟩
  all_goals exact fun q => absurd q (by decide)
theorem give_13 (hd : 2 ≤ d) (hp : 0 ≤ p ∧ p < 6) (hx : 0 ≤ dp ∧ dp ≤ 11) (h : tr7 m μ L) (hl : L.length < 15) (hq : ∀ μ1 : Mem, tr7 m μ1 (L ++ [13, 10]) → Q (some (.inl (m (4 + 6) p - 100))) μ1) : Cl E (d + 1) M_X1_give [.inr 45, .inr 4, .inl p, .inl 13, .inl dp] μ Q := by
  obtain ⟨d, rfl⟩ : ∃ d', d = d' + 1 := ⟨d - 1, by omega⟩
  refine s_X1_give (by omega) ⟨by omega, fun _ => k_X1_leave h (by omega) (fun μ1 h1 => ⟨rfl, hp, by decide, ?_, ?_, ?_, ?_, fun _ => give_10 (by omega) hp (by omega) h1 (by rw [List.length_append, List.length_singleton]; omega) (fun μ2 h2 => ⟨_, rfl, hq μ2 (by simpa using h2)⟩), ?_, ?_, ?_, ?_, ?_, ?_, ?_, ?_, ?_, ?_, ?_, trivial⟩), fun z => absurd (by omega) z⟩
  all_goals exact fun q => absurd q (by decide)
theorem give_14 (hd : 3 ≤ d) (hp : 0 ≤ p ∧ p < 6) (hx : 0 ≤ dp ∧ dp ≤ 10) (h : tr7 m μ L) (hl : L.length < 14) (hq : ∀ μ1 : Mem, tr7 m μ1 (L ++ [14, 13, 10]) → Q (some (.inl ((m (4 + 6) p - 100) * 2))) μ1) : Cl E (d + 1) M_X1_give [.inr 45, .inr 4, .inl p, .inl 14, .inl dp] μ Q := by
  obtain ⟨d, rfl⟩ : ∃ d', d = d' + 1 := ⟨d - 1, by omega⟩
  refine s_X1_give (by omega) ⟨by omega, fun _ => k_X1_leave h (by omega) (fun μ1 h1 => ⟨rfl, hp, by decide, ?_, ?_, ?_, ?_, ?_, fun _ => give_13 (by omega) hp (by omega) h1 (by rw [List.length_append, List.length_singleton]; omega) (fun μ2 h2 => ⟨_, rfl, hq μ2 (by simpa using h2)⟩), ?_, ?_, ?_, ?_, ?_, ?_, ?_, ?_, ?_, ?_, trivial⟩), fun z => absurd (by omega) z⟩
  all_goals exact fun q => absurd q (by decide)
theorem Ro2 (h : RoOk E) {k : Int} (h1 : 1 ≤ k) (h2 : k ≤ 5) : eR E 2 k.toNat = if k = 5 then 14 else if k = 4 then 13 else if k = 2 then 12 else 11 := by
  have := (h k.toNat (by omega)).2.2.1
  rcases (show k = 1 ∨ k = 2 ∨ k = 3 ∨ k = 4 ∨ k = 5 by omega) with e | e | e | e | e <;> subst e <;> exact this
theorem Ro3 (h : RoOk E) {k : Int} (h1 : 1 ≤ k) (h2 : k ≤ 5) : eR E 3 k.toNat = if 4 ≤ k then 23 else if k = 2 then 24 else if k = 1 then 21 else 22 := by
  have := (h k.toNat (by omega)).2.2.2
  rcases (show k = 1 ∨ k = 2 ∨ k = 3 ∨ k = 4 ∨ k = 5 by omega) with e | e | e | e | e <;> subst e <;> exact this
theorem give_mk {b : Int} (hR : RoOk E) (hd : 3 ≤ d) (hp : 0 ≤ p ∧ p < 6) (hx : 0 ≤ dp ∧ dp ≤ 10) (hk : 1 ≤ m (4 + 3) p ∧ m (4 + 3) p ≤ 3) (hb : b = eR E 3 (m (4 + 3) p).toNat) (h : tr7 m μ L) (hl : L.length < 14) (hq : ∀ μ1 : Mem, tr7 m μ1 (L ++ mkL (m (4 + 3) p)) → Q (some (.inl (mkV (m (4 + 3) p) (p + m (4 + 4) p)))) μ1) : Cl E (d + 1) M_X1_give [.inr 45, .inr 4, .inl p, .inl b, .inl dp] μ Q := by
  rw [Ro3 hR hk.1 (by omega)] at hb
  unfold mkL mkV at hq
  rcases (show m (4 + 3) p = 1 ∨ m (4 + 3) p = 2 ∨ m (4 + 3) p = 3 by omega) with e | e | e <;> rw [e] at hq hb <;> (have hb' := hb) <;> subst hb
  · exact give_21 (by omega) hp (by omega) h (by omega) hq
  · exact give_24 hd hp hx h hl (fun μ1 h1 => by have := hq μ1 h1; rwa [if_neg (by decide), if_pos rfl, Int.mul_comm] at this)
  · exact give_22 hd hp hx h hl hq
theorem give_sz {b : Int} (hR : RoOk E) (hd : 3 ≤ d) (hp : 0 ≤ p ∧ p < 6) (hx : 0 ≤ dp ∧ dp ≤ 10) (hk : 4 ≤ m (4 + 3) p ∧ m (4 + 3) p ≤ 5) (hb : b = eR E 2 (m (4 + 3) p).toNat) (h : tr7 m μ L) (hl : L.length < 14) (hq : ∀ μ1 : Mem, tr7 m μ1 (L ++ szL (m (4 + 3) p)) → Q (some (.inl (szV (m (4 + 3) p) (m (4 + 6) p)))) μ1) : Cl E (d + 1) M_X1_give [.inr 45, .inr 4, .inl p, .inl b, .inl dp] μ Q := by
  rw [Ro2 hR (by omega) (by omega)] at hb
  unfold szL szV at hq
  rcases (show m (4 + 3) p = 4 ∨ m (4 + 3) p = 5 by omega) with e | e <;> rw [e] at hq hb <;> (have hb' := hb) <;> subst hb
  · exact give_13 (by omega) hp (by omega) h (by omega) hq
  · exact give_14 hd hp hx h hl (fun μ1 h1 => by have := hq μ1 h1; rwa [if_pos rfl, Int.mul_comm] at this)
theorem give_11 (hR : RoOk E) (hd : 4 ≤ d) (hp : 0 ≤ p ∧ p < 6) (hx : 0 ≤ dp ∧ dp ≤ 9) (hk : 1 ≤ m (4 + 3) p ∧ m (4 + 3) p ≤ 3) (h : tr7 m μ L) (hl : L.length < 12) (hq : ∀ μ1 : Mem, tr7 m μ1 (L ++ [11, 10] ++ mkL (m (4 + 3) p)) → Q (some (.inl (m (4 + 6) p + mkV (m (4 + 3) p) (p + m (4 + 4) p)))) μ1) : Cl E (d + 1) M_X1_give [.inr 45, .inr 4, .inl p, .inl 11, .inl dp] μ Q := by
  obtain ⟨d, rfl⟩ : ∃ d', d = d' + 1 := ⟨d - 1, by omega⟩
  refine s_X1_give (by omega) ⟨by omega, fun _ => k_X1_leave h (by omega) (fun μ1 h1 => ⟨rfl, hp, by decide, ?_, ?_, fun _ => give_10 (by omega) hp (by omega) h1 (by rw [List.length_append, List.length_singleton]; omega) (fun μ2 h2 => ⟨_, rfl, ?_, ?_⟩), ?_, ?_, ?_, ?_, ?_, ?_, ?_, ?_, ?_, ?_, ?_, ?_, ?_, trivial⟩), fun z => absurd (by omega) z⟩
  rotate_left 2
  · rw [h1.2.2 (4 + 3) (by decide) (by decide)]; omega
  · rw [h1.2.2 (4 + 3) (by decide) (by decide)]
    exact give_mk hR (by omega) hp (by omega) hk rfl (L := L ++ [11] ++ [10]) h2 (by simp only [List.length_append, List.length_singleton]; omega) (fun μ3 h3 => ⟨_, rfl, hq μ3 (by simpa using h3)⟩)
  all_goals exact fun q => absurd q (by decide)
theorem give_12 (hR : RoOk E) (hd : 5 ≤ d) (hp : 0 ≤ p ∧ p < 6) (hx : 0 ≤ dp ∧ dp ≤ 8) (hk : m (4 + 3) p = 2) (h : tr7 m μ L) (hl : L.length < 11) (hq : ∀ μ1 : Mem, tr7 m μ1 (L ++ [12] ++ [11, 10] ++ mkL (m (4 + 3) p)) → Q (some (.inl (0 - (m (4 + 6) p + mkV (m (4 + 3) p) (p + m (4 + 4) p))))) μ1) : Cl E (d + 1) M_X1_give [.inr 45, .inr 4, .inl p, .inl 12, .inl dp] μ Q := by
  obtain ⟨d, rfl⟩ : ∃ d', d = d' + 1 := ⟨d - 1, by omega⟩
  refine s_X1_give (by omega) ⟨by omega, fun _ => k_X1_leave h (by omega) (fun μ1 h1 => ⟨rfl, hp, by decide, ?_, ?_, ?_, fun _ => give_11 hR (by omega) hp (by omega) (by omega) h1 (by rw [List.length_append, List.length_singleton]; omega) (fun μ2 h2 => ⟨_, rfl, hq μ2 h2⟩), ?_, ?_, ?_, ?_, ?_, ?_, ?_, ?_, ?_, ?_, ?_, ?_, trivial⟩), fun z => absurd (by omega) z⟩
  all_goals exact fun q => absurd q (by decide)
theorem give_23 (hR : RoOk E) (hd : 4 ≤ d) (hp : 0 ≤ p ∧ p < 6) (hx : 0 ≤ dp ∧ dp ≤ 9) (hk : 4 ≤ m (4 + 3) p ∧ m (4 + 3) p ≤ 5) (h : tr7 m μ L) (hl : L.length < 12) (hq : ∀ μ1 : Mem, tr7 m μ1 (L ++ [23, 20] ++ szL (m (4 + 3) p)) → Q (some (.inl (p - szV (m (4 + 3) p) (m (4 + 6) p)))) μ1) : Cl E (d + 1) M_X1_give [.inr 45, .inr 4, .inl p, .inl 23, .inl dp] μ Q := by
  obtain ⟨d, rfl⟩ : ∃ d', d = d' + 1 := ⟨d - 1, by omega⟩
  refine s_X1_give (by omega) ⟨by omega, fun _ => k_X1_leave h (by omega) (fun μ1 h1 => ⟨rfl, hp, by decide, ?_, ?_, ?_, ?_, ?_, ?_, ?_, ?_, ?_, ?_, ?_, ?_, ?_, ?_, fun _ => give_20 (by omega) hp (by omega) h1 (by rw [List.length_append, List.length_singleton]; omega) (fun μ2 h2 => ⟨_, rfl, ?_, ?_⟩), ?_, trivial⟩), fun z => absurd (by omega) z⟩
  rotate_left 14
  · rw [h1.2.2 (4 + 3) (by decide) (by decide)]; omega
  · rw [h1.2.2 (4 + 3) (by decide) (by decide)]
    exact give_sz hR (by omega) hp (by omega) hk rfl (L := L ++ [23] ++ [20]) h2 (by simp only [List.length_append, List.length_singleton]; omega) (fun μ3 h3 => ⟨_, rfl, hq μ3 (by simpa using h3)⟩)
  all_goals exact fun q => absurd q (by decide)
def akL (k w : Int) : List Int := if w = 0 then (if 4 ≤ k then szL k else plL k) else (if 4 ≤ k then [23, 20] ++ szL k else mkL k)
def akV (k w p t v : Int) : Int := if w = 0 then (if 4 ≤ k then szV k t else plV k t v) else (if 4 ≤ k then p - szV k t else mkV k v)
theorem k_X1_answer (hR : RoOk E) (hp : 0 ≤ p ∧ p < 6) (hw : 0 ≤ x2 ∧ x2 < 2) (hk : 1 ≤ μ (4 + 3) p ∧ μ (4 + 3) p ≤ 5) (h : ∀ μ1 : Mem, tr7 μ μ1 (akL (μ (4 + 3) p) x2) → Q (some (.inl (akV (μ (4 + 3) p) x2 p (μ (4 + 6) p) (p + μ (4 + 4) p)))) μ1) : Cl E 21 M_X1_answer [.inr 45, .inr 4, .inl p, .inl x2] μ Q := by
  refine s_X1_answer (fun μ1 e1 => ?_)
  have t0 : tr7 μ μ1 [] := ⟨by rw [e1, up_self]; rfl, fun j hj => absurd hj (Nat.not_lt_zero j), fun k k1 _ => by rw [e1, up_ne k1]⟩
  have e3 : μ1 (4 + 3) = μ (4 + 3) := t0.2.2 _ (by decide) (by decide)
  rw [e3]
  unfold akL akV at h
  refine ⟨hp, by omega, fun z => ⟨by omega, ?_⟩, fun z => ⟨by omega, ?_⟩⟩
  · rw [if_neg z] at h
    rw [if_neg z] at h
    by_cases hs : 4 ≤ μ (4 + 3) p
    · rw [Ro3 hR hk.1 hk.2, if_pos hs]
      rw [if_pos hs, if_pos hs] at h
      exact give_23 hR (by decide) hp (by decide) ⟨hs, hk.2⟩ t0 (by decide) (fun μ2 h2 => ⟨_, rfl, h μ2 h2⟩)
    · rw [if_neg hs, if_neg hs] at h
      exact give_mk hR (by decide) hp (by decide) ⟨hk.1, by omega⟩ rfl t0 (by decide) (fun μ2 h2 => ⟨_, rfl, h μ2 h2⟩)
  · rw [if_pos z, if_pos z] at h
    by_cases hs : 4 ≤ μ (4 + 3) p
    · rw [if_pos hs, if_pos hs] at h
      exact give_sz hR (by decide) hp (by decide) ⟨hs, hk.2⟩ rfl t0 (by decide) (fun μ2 h2 => ⟨_, rfl, h μ2 h2⟩)
    · rw [if_neg hs, if_neg hs] at h
      unfold plL plV at h
      rw [Ro2 hR hk.1 hk.2, if_neg (by omega), if_neg (by omega)]
      by_cases h2 : μ (4 + 3) p = 2
      · rw [if_pos h2]
        rw [if_pos h2, if_pos h2] at h
        refine give_12 hR (by decide) hp (by decide) h2 t0 (by decide) (fun μ2 h3 => ⟨_, rfl, ?_⟩)
        rw [Int.zero_sub]
        exact h μ2 (by rw [h2] at h3; exact h3)
      · rw [if_neg h2]
        rw [if_neg h2, if_neg h2] at h
        exact give_11 hR (by decide) hp (by decide) ⟨hk.1, by omega⟩ t0 (by decide) (fun μ2 h3 => ⟨_, rfl, h μ2 h3⟩)
/-! the reference -/
theorem k_X8_plainMark {k n : Int} (hp : 0 ≤ p ∧ p < 6) (hk : m 89 (13 + 13 * p + 0) = k) (hk2 : 1 ≤ k ∧ k ≤ 3) (hn : m 89 (13 + 13 * p + 3) = n) (h : tr8 m μ L) (hl : L.length < 12) (hq : ∀ μ1 : Mem, tr8 m μ1 (L ++ mkL k) → Q (some (.inl (mkV k (p + n)))) μ1) : Cl E 1 M_X8_plainMark [.inr 83, .inl p] μ Q := by
  have f89 : μ 89 = m 89 := h.2.2.2 89 (by decide) (by decide)
  unfold mkL mkV at hq
  have tail : ∀ (μ' : Mem) (L' : List Int), tr8 m μ' L' → L'.length < 14 → (∀ μ1 : Mem, tr8 m μ1 (L' ++ [21, 20]) → Q (some (.inl (if k = 1 then p + n else if k = 2 then 2 * (p + n) else p + n - 1000))) μ1) → Gg E 1 M_X8_plainMark 31 [some (.inr 83), some (.inl p), some (.inl k), none] [] μ' Q := by
    intro μ' L' h' hl' hq'
    refine s_X8_plainMark_31 (k_X8_begins h' (by omega) (fun μ1 h1 => ⟨rfl, k_X8_begins h1 (by simp only [List.length_append, List.length_singleton]; omega) (fun μ2 h2 => ⟨rfl, by omega, by omega, ?_⟩)⟩))
    have := hq' μ2 (by simpa using h2)
    rw [h2.2.2.2 89 (by decide) (by decide), hn]
    refine ⟨fun z => ⟨fun z2 => ?_, fun z2 => ?_⟩, fun z => ?_⟩
    · rwa [if_pos (by omega)] at this
    · rwa [if_neg (by omega), if_neg z] at this
    · rwa [if_neg (by omega), if_pos z] at this
  refine s_X8_plainMark ?_
  rw [f89, hk]
  refine ⟨by omega, by omega, fun z => tail μ L h (by omega) (by rw [if_pos z] at hq; exact hq), fun z => ⟨fun z2 => k_X8_begins h (by omega) (fun μ1 h1 => ⟨rfl, tail μ1 _ h1 (by simp only [List.length_append, List.length_singleton]; omega) (fun μ2 h2 => hq μ2 ?_)⟩), fun z2 => k_X8_begins h (by omega) (fun μ1 h1 => ⟨rfl, tail μ1 _ h1 (by simp only [List.length_append, List.length_singleton]; omega) (fun μ2 h2 => hq μ2 ?_)⟩)⟩⟩
  · rw [if_neg z, if_neg z2]; simpa using h2
  · rw [if_neg z, if_pos z2]; simpa using h2
theorem k_X8_saintSize {k n : Int} (hp : 0 ≤ p ∧ p < 6) (hk : m 89 (13 + 13 * p + 0) = k) (hk2 : 4 ≤ k ∧ k ≤ 5) (hn : m 89 (13 + 13 * p + 1) = n) (h : tr8 m μ L) (hl : L.length < 12) (hq : ∀ μ1 : Mem, tr8 m μ1 (L ++ szL k) → Q (some (.inl (szV k n))) μ1) : Cl E 1 M_X8_saintSize [.inr 83, .inl p] μ Q := by
  have f89 : μ 89 = m 89 := h.2.2.2 89 (by decide) (by decide)
  unfold szL szV at hq
  have tail : ∀ (μ' : Mem) (L' : List Int) (b : Bool), b = decide (k = 5) → tr8 m μ' L' → L'.length < 14 → (∀ μ1 : Mem, tr8 m μ1 (L' ++ [13, 10]) → Q (some (.inl (if k = 5 then 2 * (n - 100) else n - 100))) μ1) → Gg E 1 M_X8_saintSize 29 [some (.inr 83), some (.inl p), some (.inl (bi b)), none] [] μ' Q := by
    intro μ' L' b hb h' hl' hq'
    refine s_X8_saintSize_29 (k_X8_begins h' (by omega) (fun μ1 h1 => ⟨rfl, k_X8_begins h1 (by simp only [List.length_append, List.length_singleton]; omega) (fun μ2 h2 => ⟨rfl, by omega, bi_inR _, ?_⟩)⟩))
    have := hq' μ2 (by simpa using h2)
    rw [h2.2.2.2 89 (by decide) (by decide), hn]
    cases b
    · rw [if_neg (of_decide_eq_false hb.symm)] at this
      exact ⟨fun _ => this, fun z => absurd rfl z⟩
    · rw [if_pos (of_decide_eq_true hb.symm)] at this
      exact ⟨fun z => absurd z (by decide), fun _ => this⟩
  refine s_X8_saintSize ?_
  rw [f89, hk]
  refine ⟨by omega, by omega, fun z => tail μ L false (decide_eq_false z).symm h (by omega) (by rw [if_neg z] at hq; exact hq), fun z => k_X8_begins h (by omega) (fun μ1 h1 => ⟨rfl, tail μ1 _ true (decide_eq_true z).symm h1 (by simp only [List.length_append, List.length_singleton]; omega) (fun μ2 h2 => hq μ2 ?_)⟩)⟩
  rw [if_pos z]; simpa using h2
theorem k_X8_plainSize {k n t : Int} (hp : 0 ≤ p ∧ p < 6) (hk : m 89 (13 + 13 * p + 0) = k) (hk2 : 1 ≤ k ∧ k ≤ 3) (hn : m 89 (13 + 13 * p + 3) = n) (ht : m 89 (13 + 13 * p + 1) = t) (h : tr8 m μ []) (hq : ∀ μ1 : Mem, tr8 m μ1 (plL k) → Q (some (.inl (plV k t (p + n)))) μ1) : Cl E 2 M_X8_plainSize [.inr 83, .inl p] μ Q := by
  have f89 : μ 89 = m 89 := h.2.2.2 89 (by decide) (by decide)
  unfold plL plV at hq
  have tail : ∀ (μ' : Mem) (L' : List Int) (b : Bool), b = decide (k = 2) → tr8 m μ' L' → L'.length < 2 → (∀ μ1 : Mem, tr8 m μ1 (L' ++ [11, 10] ++ mkL k) → Q (some (.inl (if k = 2 then -(t + mkV k (p + n)) else t + mkV k (p + n)))) μ1) → Gg E 2 M_X8_plainSize 29 [some (.inr 83), some (.inl p), some (.inl (bi b)), none] [] μ' Q := by
    intro μ' L' b hb h' hl' hq'
    refine s_X8_plainSize_29 (k_X8_begins h' (by omega) (fun μ1 h1 => ⟨rfl, k_X8_begins h1 (by simp only [List.length_append, List.length_singleton]; omega) (fun μ2 h2 => ⟨rfl, by omega, ?_⟩)⟩))
    rw [h2.2.2.2 89 (by decide) (by decide), ht]
    refine k_X8_plainMark hp hk hk2 hn h2 (by simp only [List.length_append, List.length_singleton]; omega) (fun μ3 h3 => ⟨_, rfl, bi_inR _, ?_⟩)
    have := hq' μ3 (by simpa using h3)
    cases b
    · rw [if_neg (of_decide_eq_false hb.symm)] at this
      exact ⟨fun _ => this, fun z => absurd rfl z⟩
    · rw [if_pos (of_decide_eq_true hb.symm)] at this
      exact ⟨fun z => absurd z (by decide), fun _ => this⟩
  refine s_X8_plainSize ?_
  rw [f89, hk]
  refine ⟨by omega, by omega, fun z => tail μ [] false (decide_eq_false z).symm h (by decide) (by rw [if_neg z] at hq; exact hq), fun z => k_X8_begins h (by decide) (fun μ1 h1 => ⟨rfl, tail μ1 _ true (decide_eq_true z).symm h1 (by decide) (fun μ2 h2 => hq μ2 ?_)⟩)⟩
  subst z; rw [if_pos rfl]; exact h2
theorem k_X8_saintMark {k t : Int} (hp : 0 ≤ p ∧ p < 6) (hk : m 89 (13 + 13 * p + 0) = k) (hk2 : 4 ≤ k ∧ k ≤ 5) (ht : m 89 (13 + 13 * p + 1) = t) (h : tr8 m μ []) (hq : ∀ μ1 : Mem, tr8 m μ1 ([23, 20] ++ szL k) → Q (some (.inl (p - szV k t))) μ1) : Cl E 2 M_X8_saintMark [.inr 83, .inl p] μ Q := by
  exact s_X8_saintMark (k_X8_begins h (by decide) (fun μ1 h1 => ⟨rfl, k_X8_begins h1 (by decide) (fun μ2 h2 => ⟨rfl, k_X8_saintSize hp hk hk2 ht h2 (by decide) (fun μ3 h3 => ⟨_, rfl, hq μ3 h3⟩)⟩)⟩))
theorem Inv.trc {μ1 : Mem} (hI : Inv μ) (h : ∀ k, k ≠ 45 → k ≠ 46 → k ≠ 83 → k ≠ 95 → μ1 k = μ k) (h83 : ∀ i, i ≠ 21 → μ1 83 i = μ 83 i) (ht : ITrace μ1) : Inv μ1 := by
  obtain ⟨j1, j2, j3, j4, j5, j6, j7, j8⟩ := hI
  have hh : ∀ k, (k < 45 ∨ (46 < k ∧ k < 83) ∨ (83 < k ∧ k < 95)) → μ1 k = μ k := fun k hk => h k (by omega) (by omega) (by omega) (by omega)
  exact ⟨j1.cg (fun k hk => hh k (by omega)), j2.cg (by rw [hh 2 (by omega)]) (hh 3 (by omega)) (h83 6 (by decide)) (hh 88 (by omega)), j3.cg (by rw [hh 0 (by omega)]) (by rw [hh 0 (by omega)]) (h83 4 (by decide)) (h83 7 (by decide)), ht, j5.cg (fun k a b => hh k (by omega)) (hh 89 (by omega)), j6.cg (fun k a b => hh k (by omega)) (hh 93 (by omega)) (hh 94 (by omega)), j7.cg (fun k a b => hh k (by omega)) (h83 17 (by decide)) (hh 92 (by omega)) (fun k a b => hh k (by omega)), j8.cg (fun k hk => hh k (by omega))⟩
theorem akL_rng {k w : Int} : (akL k w).length ≤ 6 ∧ ∀ x ∈ akL k w, 0 ≤ x ∧ x ≤ 100 := by
  unfold akL szL plL mkL
  split <;> split <;> split <;> (try split) <;> (try split) <;> refine ⟨by decide, by decide⟩
theorem akV_rng {k w p t v : Int} (hp : 0 ≤ p ∧ p < 6) (ht : 1 ≤ t ∧ t ≤ 30) (hv : 0 ≤ v ∧ v ≤ 100) : inR (akV k w p t v) := by
  unfold akV szV plV mkV
  split <;> split <;> split <;> (try split) <;> (try split) <;> omega
theorem pr_ask (hI : Inv μ) (hRo : RoOk E) (i1 : inR x1) (i2 : inR x2) : Pair E 22 M_X7_ask 3 M_X8_ask [.inl x1, .inl x2] μ := by
  have hR := hI.2.2.2.2.1.1
  have e2 : μ 89 2 = μ 4 1 := hR.a2
  obtain ⟨-, v1, -⟩ := hR.2.1
  simp only [cv, Nat.add_zero] at v1
  refine s_X7_ask i1 i2 ⟨by omega, fun z1 => ⟨_, rfl, by decide, s_X8_ask i1 i2 ⟨by omega, fun _ => ⟨rfl, hI⟩, fun q => absurd (by omega) z1⟩⟩, fun z1 => ⟨fun z2 => ?_, fun z2 => ⟨_, rfl, by decide, s_X8_ask i1 i2 ⟨by omega, fun q => absurd (by omega) q, fun _ => ⟨fun q => absurd (by omega) z2, fun _ => ⟨rfl, hI⟩⟩⟩⟩⟩⟩
  obtain ⟨p0, p1, p2, p3, -⟩ := hR.p z1.1 z1.2
  obtain ⟨o3, o4, o6, -⟩ := hR.ok z1.1 z1.2
  replace p0 : μ 89 (13 + 13 * x1 + 0) = μ (4 + 3) x1 := p0
  replace p1 : μ 89 (13 + 13 * x1 + 1) = μ (4 + 6) x1 := p1
  replace p3 : μ 89 (13 + 13 * x1 + 3) = μ (4 + 4) x1 := p3
  replace o3 : 1 ≤ μ (4 + 3) x1 ∧ μ (4 + 3) x1 ≤ 5 := o3
  replace o4 : 1 ≤ μ (4 + 4) x1 ∧ μ (4 + 4) x1 ≤ 4 := o4
  replace o6 : 1 ≤ μ (4 + 6) x1 ∧ μ (4 + 6) x1 ≤ 30 := o6
  refine k_X1_answer hRo (by omega) z2 o3 (fun μ3 h3 => ⟨_, rfl, _, rfl, akV_rng (by omega) o6 (by omega), ?_⟩)
  have f89 : μ3 89 = μ 89 := h3.2.2 89 (by decide) (by decide)
  refine s_X8_ask i1 i2 ?_
  rw [f89]
  refine ⟨by omega, fun q => absurd (by omega) q, fun _ => ⟨fun _ μ4 e4 => ?_, fun q => absurd (by omega) q⟩⟩
  have g89 : μ4 89 = μ 89 := by rw [e4, up_ne (by decide), f89]
  have t0 : tr8 μ4 μ4 [] := ⟨by rw [e4, up_self]; rfl, fun j hj => absurd hj (Nat.not_lt_zero j), fun _ _ => rfl, fun _ _ _ => rfl⟩
  have done : ∀ μ5 : Mem, tr8 μ4 μ5 (akL (μ (4 + 3) x1) x2) → Inv μ5 := by
    intro μ5 h5
    obtain ⟨a1, a2, a3, a4⟩ := h5
    obtain ⟨b1, b2, b3⟩ := h3
    have kr := akL_rng (k := μ (4 + 3) x1) (w := x2)
    refine hI.trc (fun k k1 k2 k3 k4 => by rw [a4 k k3 k4, e4, up_ne k3, b3 k k1 k2]) (fun i hi => by rw [a3 i hi, e4, up_off (Or.inr hi), b3 83 (by decide) (by decide)]) ⟨?_, ?_, fun j j0 j1 => ?_⟩
    · rw [a4 45 (by decide) (by decide), e4, up_ne (by decide), b1, a1]
    · rw [a4 45 (by decide) (by decide), e4, up_ne (by decide), b1]; omega
    · rw [a4 45 (by decide) (by decide), e4, up_ne (by decide), b1] at j1
      rw [a4 46 (by decide) (by decide), e4, up_ne (by decide)]
      have c2 := a2 j.toNat (by omega)
      have d2 := b2 j.toNat (by omega)
      rw [Int.toNat_of_nonneg j0] at c2 d2
      rw [c2, d2]
      refine ⟨rfl, ?_⟩
      have hj : j.toNat < (akL (μ (4 + 3) x1) x2).length := by omega
      have := kr.2 _ (List.getElem_mem hj)
      rw [List.getD_eq_getElem?_getD, List.getElem?_eq_getElem hj]
      show inR ((akL (μ (4 + 3) x1) x2)[j.toNat])
      omega
  rw [g89, p0]
  have k0 : μ4 89 (13 + 13 * x1 + 0) = μ (4 + 3) x1 := by rw [g89, p0]
  have k1 : μ4 89 (13 + 13 * x1 + 1) = μ (4 + 6) x1 := by rw [g89, p1]
  have k3 : μ4 89 (13 + 13 * x1 + 3) = μ (4 + 4) x1 := by rw [g89, p3]
  unfold akL at done
  unfold akV
  refine ⟨by omega, by omega, fun z => s_X8_ask_43 ⟨by omega, fun w => ⟨by decide, fun _ => ?_, fun q => absurd rfl q⟩, fun w => ⟨by decide, fun _ => ?_, fun q => absurd rfl q⟩⟩, fun z => s_X8_ask_43 ⟨by omega, fun w => ⟨by decide, fun q => absurd q (by decide), fun _ => ?_⟩, fun w => ⟨by decide, fun q => absurd q (by decide), fun _ => ?_⟩⟩⟩
  · exact k_X8_plainMark (by omega) k0 (by omega) k3 t0 (by decide) (fun μ5 h5 => ⟨_, rfl, by rw [if_neg w, if_neg (by omega)], done μ5 (by rw [if_neg w, if_neg (by omega)]; exact h5)⟩)
  · exact k_X8_plainSize (by omega) k0 (by omega) k3 k1 t0 (fun μ5 h5 => ⟨_, rfl, by rw [if_pos w, if_neg (by omega)], done μ5 (by rw [if_pos w, if_neg (by omega)]; exact h5)⟩)
  · exact k_X8_saintMark (by omega) k0 (by omega) k1 t0 (fun μ5 h5 => ⟨_, rfl, by rw [if_neg w, if_pos (by omega)], done μ5 (by rw [if_neg w, if_pos (by omega)]; exact h5)⟩)
  · exact k_X8_saintSize (by omega) k0 (by omega) k1 t0 (by decide) (fun μ5 h5 => ⟨_, rfl, by rw [if_pos w, if_pos (by omega)], done μ5 (by rw [if_pos w, if_pos (by omega)]; exact h5)⟩)
end P57

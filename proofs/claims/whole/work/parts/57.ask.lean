/-! Pairs: asked. -/
set_option maxRecDepth 20000 in
theorem s_X1_leave {E : Ex} {μ : Mem} {Q : Option Vl → Mem → Prop} {x1 : Int}  (h : inR (μ 45 1) ∧ ((μ 45 1) ≥ 16 → Q none μ) ∧ (¬ (μ 45 1) ≥ 16 → (0 ≤ (μ 45 1) ∧ (μ 45 1) < 16) ∧ ∀ μ2 : Mem, μ2 = up μ 46 (μ 45 1) x1 → ∀ μ4 : Mem, μ4 = up μ2 45 1 ((μ2 45 1) + 1) → Q none μ4)) : Cl E 0 M_X1_leave [.inr 45, .inl x1] μ Q := by
  show Gg E 0 M_X1_leave 0 [some (.inr 45), some (.inl x1)] [] μ Q
  refine r_aloadn (q := 1) DM_X1_leave_0 rfl rfl ?_
  refine v_getI (q := 4) (ji := 1) DM_X1_leave_1 rfl fRX1_15 sh_45 rfl rfl ?_
  refine r_bipush (q := 6) (n := 16) DM_X1_leave_4 rfl (by decide) ?_
  have i1 := h.1
  replace h := h.2
  refine r_icge (q := 9) (t := 29) DM_X1_leave_6 rfl (by decide) ⟨⟨i1, (by decide)⟩, fun cc => ?_, fun cc => ?_⟩
  · replace h := h.1 cc
    exact r_ret (v := none) ⟨DM_X1_leave_29, rfl⟩ h
  · replace h := h.2 cc
    refine r_aloadn (q := 10) DM_X1_leave_9 rfl rfl ?_
    refine r_getR (q := 13) (r := 46) DM_X1_leave_10 rfl fRX1_9 sh_45 rfl ?_
    refine r_aloadn (q := 14) DM_X1_leave_13 rfl rfl ?_
    refine v_getI (q := 17) (ji := 1) DM_X1_leave_14 rfl fRX1_15 sh_45 rfl rfl ?_
    refine r_iloadn (q := 18) DM_X1_leave_17 rfl rfl ?_
    refine v_iast (q := 19) DM_X1_leave_18 rfl sh_46 (by decide) ⟨h.1, fun μ2 e2 => ?_⟩
    have i3 := h.1
    replace h := h.2 μ2 e2
    refine r_aloadn (q := 20) DM_X1_leave_19 rfl rfl ?_
    refine r_dup (q := 21) DM_X1_leave_20 rfl ?_
    refine v_getI (q := 24) (ji := 1) DM_X1_leave_21 rfl fRX1_15 sh_45 rfl rfl ?_
    refine r_iconst (q := 25) (n := 1) DM_X1_leave_24 rfl ?_
    refine r_iadd (q := 26) DM_X1_leave_25 rfl ?_
    refine v_put (q := 29) (ji := 1) DM_X1_leave_26 rfl pfRX1_15 sh_45 rfl rfl (Or.inl rfl) (fun μ4 e4 => ?_)
    replace h := h μ4 e4
    exact r_ret (v := none) ⟨DM_X1_leave_29, rfl⟩ h
set_option maxRecDepth 20000 in
theorem s_X1_answer {E : Ex} {μ : Mem} {Q : Option Vl → Mem → Prop} {x2 x3 : Int}  (h : ∀ μ1 : Mem, μ1 = up μ 45 1 0 → (0 ≤ x2 ∧ x2 < 6) ∧ inR x3 ∧ (x3 ≠ 0 → (0 ≤ (μ1 (4 + 3) x2) ∧ (μ1 (4 + 3) x2) < 6) ∧ Cl E 20 M_X1_give [.inr 45, .inr 4, .inl x2, .inl (eR E 3 ((μ1 (4 + 3) x2)).toNat), .inl 0] μ1 (fun vv μ4 => ∃ v5, vv = some (.inl v5) ∧ Q (some (.inl v5)) μ4)) ∧ (x3 = 0 → (0 ≤ (μ1 (4 + 3) x2) ∧ (μ1 (4 + 3) x2) < 6) ∧ Cl E 20 M_X1_give [.inr 45, .inr 4, .inl x2, .inl (eR E 2 ((μ1 (4 + 3) x2)).toNat), .inl 0] μ1 (fun vv μ6 => ∃ v7, vv = some (.inl v7) ∧ Q (some (.inl v7)) μ6))) : Cl E 21 M_X1_answer [.inr 45, .inr 4, .inl x2, .inl x3] μ Q := by
  show Gg E 21 M_X1_answer 0 [some (.inr 45), some (.inr 4), some (.inl x2), some (.inl x3), none] [] μ Q
  refine r_aloadn (q := 1) DM_X1_answer_0 rfl rfl ?_
  refine r_iconst (q := 2) (n := 0) DM_X1_answer_1 rfl ?_
  refine v_put (q := 5) (ji := 1) DM_X1_answer_2 rfl pfRX1_15 sh_45 rfl rfl (Or.inl rfl) (fun μ1 e1 => ?_)
  replace h := h μ1 e1
  refine r_aloadn (q := 6) DM_X1_answer_5 rfl rfl ?_
  refine r_getR (q := 9) (r := 4 + 3) DM_X1_answer_6 rfl fRX1_19 (co0 cK_4) rfl ?_
  refine r_iloadn (q := 10) DM_X1_answer_9 rfl rfl ?_
  refine r_iald (q := 11) DM_X1_answer_10 rfl (co3 cK_4) (by decide) ⟨h.1, ?_⟩
  have i2 := h.1
  replace h := h.2
  refine v_istore (q := 13) (ls' := [some (.inr 45), some (.inr 4), some (.inl x2), some (.inl x3), some (.inl (μ1 (4 + 3) x2))]) DM_X1_answer_11 rfl (by decide) rfl ?_
  refine r_aloadn (q := 14) DM_X1_answer_13 rfl rfl ?_
  refine r_aloadn (q := 15) DM_X1_answer_14 rfl rfl ?_
  refine r_iloadn (q := 16) DM_X1_answer_15 rfl rfl ?_
  refine r_iloadn (q := 17) DM_X1_answer_16 rfl rfl ?_
  have i3 := h.1
  replace h := h.2
  refine r_ifne (q := 20) (t := 29) DM_X1_answer_17 rfl (by decide) ⟨i3, fun cc => ?_, fun cc => ?_⟩
  · replace h := h.1 cc
    refine r_gets (q := 32) (t := 3) DM_X1_answer_29 rfl (by decide) zRX1_27 ?_
    refine r_iload (q := 34) DM_X1_answer_32 rfl rfl ?_
    refine v_tald (q := 35) (t := 3) (N := 6) DM_X1_answer_34 rfl (by decide) rfl ⟨h.1, ?_⟩
    replace h := h.2
    refine r_iconst (q := 36) (n := 0) DM_X1_answer_35 rfl ?_
    refine r_callVi [.inr 4, .inl x2, .inl (eR E 3 ((μ1 (4 + 3) x2)).toNat), .inl 0] (q := 39) DM_X1_answer_36 rfl kM_X1_give lRX1_30 sh_45 rfl rfl (by decide) (Nat.le_of_ble_eq_true rfl) rfl (Cl.imp h (fun vv μ4 h => ?_))
    obtain ⟨v5, hv, h⟩ := h
    refine ⟨v5, hv, ?_⟩
    exact r_ret (v := some (.inl v5)) ⟨DM_X1_answer_39, Or.inl rfl⟩ h
  · replace h := h.2 cc
    refine r_gets (q := 23) (t := 2) DM_X1_answer_20 rfl (by decide) zRX1_24 ?_
    refine r_iload (q := 25) DM_X1_answer_23 rfl rfl ?_
    refine v_tald (q := 26) (t := 2) (N := 6) DM_X1_answer_25 rfl (by decide) rfl ⟨h.1, ?_⟩
    replace h := h.2
    refine r_goto (q := 35) DM_X1_answer_26 (by decide) ?_
    refine r_iconst (q := 36) (n := 0) DM_X1_answer_35 rfl ?_
    refine r_callVi [.inr 4, .inl x2, .inl (eR E 2 ((μ1 (4 + 3) x2)).toNat), .inl 0] (q := 39) DM_X1_answer_36 rfl kM_X1_give lRX1_30 sh_45 rfl rfl (by decide) (Nat.le_of_ble_eq_true rfl) rfl (Cl.imp h (fun vv μ6 h => ?_))
    obtain ⟨v7, hv, h⟩ := h
    refine ⟨v7, hv, ?_⟩
    exact r_ret (v := some (.inl v7)) ⟨DM_X1_answer_39, Or.inl rfl⟩ h
set_option maxRecDepth 20000 in
theorem s_X1_give {E : Ex} {μ : Mem} {Q : Option Vl → Mem → Prop} {x2 x3 x4 : Int}  {d : Nat} (hd : 1 ≤ d) (h : inR x4 ∧ (x4 ≤ 12 → Cl E 0 M_X1_leave [.inr 45, .inl x3] μ (fun vv μ2 => vv = none ∧ inR x3 ∧ ((x3 < 10 ∨ 24 < x3) → Q (some (.inl 0)) μ2) ∧ (x3 = 10 → (0 ≤ x2 ∧ x2 < 6) ∧ Q (some (.inl (μ2 (4 + 6) x2))) μ2) ∧ (x3 = 11 → Cl E d M_X1_give [.inr 45, .inr 4, .inl x2, .inl 10, .inl (x4 + 1)] μ2 (fun vv μ6 => ∃ v7, vv = some (.inl v7) ∧ (0 ≤ x2 ∧ x2 < 6) ∧ (0 ≤ (μ6 (4 + 3) x2) ∧ (μ6 (4 + 3) x2) < 6) ∧ Cl E d M_X1_give [.inr 45, .inr 4, .inl x2, .inl (eR E 3 ((μ6 (4 + 3) x2)).toNat), .inl (x4 + 1)] μ6 (fun vv μ9 => ∃ v10, vv = some (.inl v10) ∧ Q (some (.inl (v7 + v10))) μ9))) ∧ (x3 = 12 → Cl E d M_X1_give [.inr 45, .inr 4, .inl x2, .inl 11, .inl (x4 + 1)] μ2 (fun vv μ11 => ∃ v12, vv = some (.inl v12) ∧ Q (some (.inl (0 - v12))) μ11)) ∧ (x3 = 13 → Cl E d M_X1_give [.inr 45, .inr 4, .inl x2, .inl 10, .inl (x4 + 1)] μ2 (fun vv μ13 => ∃ v14, vv = some (.inl v14) ∧ Q (some (.inl (v14 - 100))) μ13)) ∧ (x3 = 14 → Cl E d M_X1_give [.inr 45, .inr 4, .inl x2, .inl 13, .inl (x4 + 1)] μ2 (fun vv μ15 => ∃ v16, vv = some (.inl v16) ∧ Q (some (.inl (v16 * 2))) μ15)) ∧ (x3 = 15 → Q (some (.inl 0)) μ2) ∧ (x3 = 16 → Q (some (.inl 0)) μ2) ∧ (x3 = 17 → Q (some (.inl 0)) μ2) ∧ (x3 = 18 → Q (some (.inl 0)) μ2) ∧ (x3 = 19 → Q (some (.inl 0)) μ2) ∧ (x3 = 20 → Q (some (.inl x2)) μ2) ∧ (x3 = 21 → Cl E d M_X1_give [.inr 45, .inr 4, .inl x2, .inl 20, .inl (x4 + 1)] μ2 (fun vv μ17 => ∃ v18, vv = some (.inl v18) ∧ (0 ≤ x2 ∧ x2 < 6) ∧ Q (some (.inl (v18 + (μ17 (4 + 4) x2)))) μ17)) ∧ (x3 = 22 → Cl E d M_X1_give [.inr 45, .inr 4, .inl x2, .inl 21, .inl (x4 + 1)] μ2 (fun vv μ20 => ∃ v21, vv = some (.inl v21) ∧ Q (some (.inl (v21 - 1000))) μ20)) ∧ (x3 = 23 → Cl E d M_X1_give [.inr 45, .inr 4, .inl x2, .inl 20, .inl (x4 + 1)] μ2 (fun vv μ22 => ∃ v23, vv = some (.inl v23) ∧ (0 ≤ x2 ∧ x2 < 6) ∧ (0 ≤ (μ22 (4 + 3) x2) ∧ (μ22 (4 + 3) x2) < 6) ∧ Cl E d M_X1_give [.inr 45, .inr 4, .inl x2, .inl (eR E 2 ((μ22 (4 + 3) x2)).toNat), .inl (x4 + 1)] μ22 (fun vv μ25 => ∃ v26, vv = some (.inl v26) ∧ Q (some (.inl (v23 - v26))) μ25))) ∧ (x3 = 24 → Cl E d M_X1_give [.inr 45, .inr 4, .inl x2, .inl 21, .inl (x4 + 1)] μ2 (fun vv μ27 => ∃ v28, vv = some (.inl v28) ∧ Q (some (.inl (v28 * 2))) μ27)) ∧ True)) ∧ (¬ x4 ≤ 12 → Q (some (.inl 0)) μ)) : Cl E (d + 1) M_X1_give [.inr 45, .inr 4, .inl x2, .inl x3, .inl x4] μ Q := by
  show Gg E (d + 1) M_X1_give 0 [some (.inr 45), some (.inr 4), some (.inl x2), some (.inl x3), some (.inl x4), none] [] μ Q
  refine r_iload (q := 2) DM_X1_give_0 rfl rfl ?_
  refine r_bipush (q := 4) (n := 12) DM_X1_give_2 rfl (by decide) ?_
  have i1 := h.1
  replace h := h.2
  refine r_icle (q := 7) (t := 9) DM_X1_give_4 rfl (by decide) ⟨⟨i1, (by decide)⟩, fun cc => ?_, fun cc => ?_⟩
  · replace h := h.1 cc
    refine r_aloadn (q := 10) DM_X1_give_9 rfl rfl ?_
    refine r_iloadn (q := 11) DM_X1_give_10 rfl rfl ?_
    refine r_callVv [.inl x3] (q := 14) DM_X1_give_11 rfl kM_X1_leave lRX1_34 sh_45 rfl rfl (by omega) (Nat.le_of_ble_eq_true rfl) rfl (Cl.imp h (fun vv μ2 h => ?_))
    obtain ⟨hv, h⟩ := h
    refine ⟨hv, ?_⟩
    refine r_iload (q := 16) DM_X1_give_14 rfl rfl ?_
    refine r_iconst (q := 17) (n := 1) DM_X1_give_16 rfl ?_
    refine r_iadd (q := 18) DM_X1_give_17 rfl ?_
    refine v_istore (q := 20) (ls' := [some (.inr 45), some (.inr 4), some (.inl x2), some (.inl x3), some (.inl x4), some (.inl (x4 + 1))]) DM_X1_give_18 rfl (by decide) rfl ?_
    refine r_iloadn (q := 21) DM_X1_give_20 rfl rfl ?_
    have i4 := h.1
    replace h := h.2
    refine r_tab DM_X1_give_21 i4 (fun c1 c2 => ?_) (fun cc => ⟨251, by decide, ?_⟩)
    · rcases (show x3 = 10 ∨ x3 = 11 ∨ x3 = 12 ∨ x3 = 13 ∨ x3 = 14 ∨ x3 = 15 ∨ x3 = 16 ∨ x3 = 17 ∨ x3 = 18 ∨ x3 = 19 ∨ x3 = 20 ∨ x3 = 21 ∨ x3 = 22 ∨ x3 = 23 ∨ x3 = 24 from by omega) with cc | cc | cc | cc | cc | cc | cc | cc | cc | cc | cc | cc | cc | cc | cc
      · replace h := h.2.1 cc
        refine ⟨75, 96, by rw [cc]; rfl, by decide, ?_⟩
        refine r_aloadn (q := 97) DM_X1_give_96 rfl rfl ?_
        refine r_getR (q := 100) (r := 4 + 6) DM_X1_give_97 rfl fRX1_38 (co0 cK_4) rfl ?_
        refine r_iloadn (q := 101) DM_X1_give_100 rfl rfl ?_
        refine r_iald (q := 102) DM_X1_give_101 rfl (co6 cK_4) (by decide) ⟨h.1, ?_⟩
        have i5 := h.1
        replace h := h.2
        exact r_ret (v := some (.inl (μ2 (4 + 6) x2))) ⟨DM_X1_give_102, Or.inl rfl⟩ h
      · replace h := h.2.2.1 cc
        refine ⟨82, 103, by rw [cc]; rfl, by decide, ?_⟩
        refine r_aloadn (q := 104) DM_X1_give_103 rfl rfl ?_
        refine r_aloadn (q := 105) DM_X1_give_104 rfl rfl ?_
        refine r_iloadn (q := 106) DM_X1_give_105 rfl rfl ?_
        refine r_bipush (q := 108) (n := 10) DM_X1_give_106 rfl (by decide) ?_
        refine r_iload (q := 110) DM_X1_give_108 rfl rfl ?_
        refine r_callVi [.inr 4, .inl x2, .inl 10, .inl (x4 + 1)] (q := 113) DM_X1_give_110 rfl kM_X1_give lRX1_30 sh_45 rfl rfl (by omega) (Nat.le_of_ble_eq_true rfl) rfl (Cl.imp h (fun vv μ6 h => ?_))
        obtain ⟨v7, hv, h⟩ := h
        refine ⟨v7, hv, ?_⟩
        refine r_aloadn (q := 114) DM_X1_give_113 rfl rfl ?_
        refine r_aloadn (q := 115) DM_X1_give_114 rfl rfl ?_
        refine r_iloadn (q := 116) DM_X1_give_115 rfl rfl ?_
        refine r_gets (q := 119) (t := 3) DM_X1_give_116 rfl (by decide) zRX1_27 ?_
        refine r_aloadn (q := 120) DM_X1_give_119 rfl rfl ?_
        refine r_getR (q := 123) (r := 4 + 3) DM_X1_give_120 rfl fRX1_19 (co0 cK_4) rfl ?_
        refine r_iloadn (q := 124) DM_X1_give_123 rfl rfl ?_
        refine r_iald (q := 125) DM_X1_give_124 rfl (co3 cK_4) (by decide) ⟨h.1, ?_⟩
        have i8 := h.1
        replace h := h.2
        refine v_tald (q := 126) (t := 3) (N := 6) DM_X1_give_125 rfl (by decide) rfl ⟨h.1, ?_⟩
        replace h := h.2
        refine r_iload (q := 128) DM_X1_give_126 rfl rfl ?_
        refine r_callVi [.inr 4, .inl x2, .inl (eR E 3 ((μ6 (4 + 3) x2)).toNat), .inl (x4 + 1)] (q := 131) DM_X1_give_128 rfl kM_X1_give lRX1_30 sh_45 rfl rfl (by omega) (Nat.le_of_ble_eq_true rfl) rfl (Cl.imp h (fun vv μ9 h => ?_))
        obtain ⟨v10, hv, h⟩ := h
        refine ⟨v10, hv, ?_⟩
        refine r_iadd (q := 132) DM_X1_give_131 rfl ?_
        exact r_ret (v := some (.inl (v7 + v10))) ⟨DM_X1_give_132, Or.inl rfl⟩ h
      · replace h := h.2.2.2.1 cc
        refine ⟨112, 133, by rw [cc]; rfl, by decide, ?_⟩
        refine r_iconst (q := 134) (n := 0) DM_X1_give_133 rfl ?_
        refine r_aloadn (q := 135) DM_X1_give_134 rfl rfl ?_
        refine r_aloadn (q := 136) DM_X1_give_135 rfl rfl ?_
        refine r_iloadn (q := 137) DM_X1_give_136 rfl rfl ?_
        refine r_bipush (q := 139) (n := 11) DM_X1_give_137 rfl (by decide) ?_
        refine r_iload (q := 141) DM_X1_give_139 rfl rfl ?_
        refine r_callVi [.inr 4, .inl x2, .inl 11, .inl (x4 + 1)] (q := 144) DM_X1_give_141 rfl kM_X1_give lRX1_30 sh_45 rfl rfl (by omega) (Nat.le_of_ble_eq_true rfl) rfl (Cl.imp h (fun vv μ11 h => ?_))
        obtain ⟨v12, hv, h⟩ := h
        refine ⟨v12, hv, ?_⟩
        refine r_isub (q := 145) DM_X1_give_144 rfl ?_
        exact r_ret (v := some (.inl (0 - v12))) ⟨DM_X1_give_145, Or.inl rfl⟩ h
      · replace h := h.2.2.2.2.1 cc
        refine ⟨125, 146, by rw [cc]; rfl, by decide, ?_⟩
        refine r_aloadn (q := 147) DM_X1_give_146 rfl rfl ?_
        refine r_aloadn (q := 148) DM_X1_give_147 rfl rfl ?_
        refine r_iloadn (q := 149) DM_X1_give_148 rfl rfl ?_
        refine r_bipush (q := 151) (n := 10) DM_X1_give_149 rfl (by decide) ?_
        refine r_iload (q := 153) DM_X1_give_151 rfl rfl ?_
        refine r_callVi [.inr 4, .inl x2, .inl 10, .inl (x4 + 1)] (q := 156) DM_X1_give_153 rfl kM_X1_give lRX1_30 sh_45 rfl rfl (by omega) (Nat.le_of_ble_eq_true rfl) rfl (Cl.imp h (fun vv μ13 h => ?_))
        obtain ⟨v14, hv, h⟩ := h
        refine ⟨v14, hv, ?_⟩
        refine r_bipush (q := 158) (n := 100) DM_X1_give_156 rfl (by decide) ?_
        refine r_isub (q := 159) DM_X1_give_158 rfl ?_
        exact r_ret (v := some (.inl (v14 - 100))) ⟨DM_X1_give_159, Or.inl rfl⟩ h
      · replace h := h.2.2.2.2.2.1 cc
        refine ⟨139, 160, by rw [cc]; rfl, by decide, ?_⟩
        refine r_aloadn (q := 161) DM_X1_give_160 rfl rfl ?_
        refine r_aloadn (q := 162) DM_X1_give_161 rfl rfl ?_
        refine r_iloadn (q := 163) DM_X1_give_162 rfl rfl ?_
        refine r_bipush (q := 165) (n := 13) DM_X1_give_163 rfl (by decide) ?_
        refine r_iload (q := 167) DM_X1_give_165 rfl rfl ?_
        refine r_callVi [.inr 4, .inl x2, .inl 13, .inl (x4 + 1)] (q := 170) DM_X1_give_167 rfl kM_X1_give lRX1_30 sh_45 rfl rfl (by omega) (Nat.le_of_ble_eq_true rfl) rfl (Cl.imp h (fun vv μ15 h => ?_))
        obtain ⟨v16, hv, h⟩ := h
        refine ⟨v16, hv, ?_⟩
        refine r_iconst (q := 171) (n := 2) DM_X1_give_170 rfl ?_
        refine r_imul (q := 172) DM_X1_give_171 rfl ?_
        exact r_ret (v := some (.inl (v16 * 2))) ⟨DM_X1_give_172, Or.inl rfl⟩ h
      · replace h := h.2.2.2.2.2.2.1 cc
        refine ⟨230, 251, by rw [cc]; rfl, by decide, ?_⟩
        refine r_iconst (q := 252) (n := 0) DM_X1_give_251 rfl ?_
        exact r_ret (v := some (.inl 0)) ⟨DM_X1_give_252, Or.inl rfl⟩ h
      · replace h := h.2.2.2.2.2.2.2.1 cc
        refine ⟨230, 251, by rw [cc]; rfl, by decide, ?_⟩
        refine r_iconst (q := 252) (n := 0) DM_X1_give_251 rfl ?_
        exact r_ret (v := some (.inl 0)) ⟨DM_X1_give_252, Or.inl rfl⟩ h
      · replace h := h.2.2.2.2.2.2.2.2.1 cc
        refine ⟨230, 251, by rw [cc]; rfl, by decide, ?_⟩
        refine r_iconst (q := 252) (n := 0) DM_X1_give_251 rfl ?_
        exact r_ret (v := some (.inl 0)) ⟨DM_X1_give_252, Or.inl rfl⟩ h
      · replace h := h.2.2.2.2.2.2.2.2.2.1 cc
        refine ⟨230, 251, by rw [cc]; rfl, by decide, ?_⟩
        refine r_iconst (q := 252) (n := 0) DM_X1_give_251 rfl ?_
        exact r_ret (v := some (.inl 0)) ⟨DM_X1_give_252, Or.inl rfl⟩ h
      · replace h := h.2.2.2.2.2.2.2.2.2.2.1 cc
        refine ⟨230, 251, by rw [cc]; rfl, by decide, ?_⟩
        refine r_iconst (q := 252) (n := 0) DM_X1_give_251 rfl ?_
        exact r_ret (v := some (.inl 0)) ⟨DM_X1_give_252, Or.inl rfl⟩ h
      · replace h := h.2.2.2.2.2.2.2.2.2.2.2.1 cc
        refine ⟨152, 173, by rw [cc]; rfl, by decide, ?_⟩
        refine r_iloadn (q := 174) DM_X1_give_173 rfl rfl ?_
        exact r_ret (v := some (.inl x2)) ⟨DM_X1_give_174, Or.inl rfl⟩ h
      · replace h := h.2.2.2.2.2.2.2.2.2.2.2.2.1 cc
        refine ⟨154, 175, by rw [cc]; rfl, by decide, ?_⟩
        refine r_aloadn (q := 176) DM_X1_give_175 rfl rfl ?_
        refine r_aloadn (q := 177) DM_X1_give_176 rfl rfl ?_
        refine r_iloadn (q := 178) DM_X1_give_177 rfl rfl ?_
        refine r_bipush (q := 180) (n := 20) DM_X1_give_178 rfl (by decide) ?_
        refine r_iload (q := 182) DM_X1_give_180 rfl rfl ?_
        refine r_callVi [.inr 4, .inl x2, .inl 20, .inl (x4 + 1)] (q := 185) DM_X1_give_182 rfl kM_X1_give lRX1_30 sh_45 rfl rfl (by omega) (Nat.le_of_ble_eq_true rfl) rfl (Cl.imp h (fun vv μ17 h => ?_))
        obtain ⟨v18, hv, h⟩ := h
        refine ⟨v18, hv, ?_⟩
        refine r_aloadn (q := 186) DM_X1_give_185 rfl rfl ?_
        refine r_getR (q := 189) (r := 4 + 4) DM_X1_give_186 rfl fRX1_41 (co0 cK_4) rfl ?_
        refine r_iloadn (q := 190) DM_X1_give_189 rfl rfl ?_
        refine r_iald (q := 191) DM_X1_give_190 rfl (co4 cK_4) (by decide) ⟨h.1, ?_⟩
        have i19 := h.1
        replace h := h.2
        refine r_iadd (q := 192) DM_X1_give_191 rfl ?_
        exact r_ret (v := some (.inl (v18 + (μ17 (4 + 4) x2)))) ⟨DM_X1_give_192, Or.inl rfl⟩ h
      · replace h := h.2.2.2.2.2.2.2.2.2.2.2.2.2.1 cc
        refine ⟨172, 193, by rw [cc]; rfl, by decide, ?_⟩
        refine r_aloadn (q := 194) DM_X1_give_193 rfl rfl ?_
        refine r_aloadn (q := 195) DM_X1_give_194 rfl rfl ?_
        refine r_iloadn (q := 196) DM_X1_give_195 rfl rfl ?_
        refine r_bipush (q := 198) (n := 21) DM_X1_give_196 rfl (by decide) ?_
        refine r_iload (q := 200) DM_X1_give_198 rfl rfl ?_
        refine r_callVi [.inr 4, .inl x2, .inl 21, .inl (x4 + 1)] (q := 203) DM_X1_give_200 rfl kM_X1_give lRX1_30 sh_45 rfl rfl (by omega) (Nat.le_of_ble_eq_true rfl) rfl (Cl.imp h (fun vv μ20 h => ?_))
        obtain ⟨v21, hv, h⟩ := h
        refine ⟨v21, hv, ?_⟩
        refine r_sipush (q := 206) (n := 1000) DM_X1_give_203 rfl (by decide) ?_
        refine r_isub (q := 207) DM_X1_give_206 rfl ?_
        exact r_ret (v := some (.inl (v21 - 1000))) ⟨DM_X1_give_207, Or.inl rfl⟩ h
      · replace h := h.2.2.2.2.2.2.2.2.2.2.2.2.2.2.1 cc
        refine ⟨187, 208, by rw [cc]; rfl, by decide, ?_⟩
        refine r_aloadn (q := 209) DM_X1_give_208 rfl rfl ?_
        refine r_aloadn (q := 210) DM_X1_give_209 rfl rfl ?_
        refine r_iloadn (q := 211) DM_X1_give_210 rfl rfl ?_
        refine r_bipush (q := 213) (n := 20) DM_X1_give_211 rfl (by decide) ?_
        refine r_iload (q := 215) DM_X1_give_213 rfl rfl ?_
        refine r_callVi [.inr 4, .inl x2, .inl 20, .inl (x4 + 1)] (q := 218) DM_X1_give_215 rfl kM_X1_give lRX1_30 sh_45 rfl rfl (by omega) (Nat.le_of_ble_eq_true rfl) rfl (Cl.imp h (fun vv μ22 h => ?_))
        obtain ⟨v23, hv, h⟩ := h
        refine ⟨v23, hv, ?_⟩
        refine r_aloadn (q := 219) DM_X1_give_218 rfl rfl ?_
        refine r_aloadn (q := 220) DM_X1_give_219 rfl rfl ?_
        refine r_iloadn (q := 221) DM_X1_give_220 rfl rfl ?_
        refine r_gets (q := 224) (t := 2) DM_X1_give_221 rfl (by decide) zRX1_24 ?_
        refine r_aloadn (q := 225) DM_X1_give_224 rfl rfl ?_
        refine r_getR (q := 228) (r := 4 + 3) DM_X1_give_225 rfl fRX1_19 (co0 cK_4) rfl ?_
        refine r_iloadn (q := 229) DM_X1_give_228 rfl rfl ?_
        refine r_iald (q := 230) DM_X1_give_229 rfl (co3 cK_4) (by decide) ⟨h.1, ?_⟩
        have i24 := h.1
        replace h := h.2
        refine v_tald (q := 231) (t := 2) (N := 6) DM_X1_give_230 rfl (by decide) rfl ⟨h.1, ?_⟩
        replace h := h.2
        refine r_iload (q := 233) DM_X1_give_231 rfl rfl ?_
        refine r_callVi [.inr 4, .inl x2, .inl (eR E 2 ((μ22 (4 + 3) x2)).toNat), .inl (x4 + 1)] (q := 236) DM_X1_give_233 rfl kM_X1_give lRX1_30 sh_45 rfl rfl (by omega) (Nat.le_of_ble_eq_true rfl) rfl (Cl.imp h (fun vv μ25 h => ?_))
        obtain ⟨v26, hv, h⟩ := h
        refine ⟨v26, hv, ?_⟩
        refine r_isub (q := 237) DM_X1_give_236 rfl ?_
        exact r_ret (v := some (.inl (v23 - v26))) ⟨DM_X1_give_237, Or.inl rfl⟩ h
      · replace h := h.2.2.2.2.2.2.2.2.2.2.2.2.2.2.2.1 cc
        refine ⟨217, 238, by rw [cc]; rfl, by decide, ?_⟩
        refine r_aloadn (q := 239) DM_X1_give_238 rfl rfl ?_
        refine r_aloadn (q := 240) DM_X1_give_239 rfl rfl ?_
        refine r_iloadn (q := 241) DM_X1_give_240 rfl rfl ?_
        refine r_bipush (q := 243) (n := 21) DM_X1_give_241 rfl (by decide) ?_
        refine r_iload (q := 245) DM_X1_give_243 rfl rfl ?_
        refine r_callVi [.inr 4, .inl x2, .inl 21, .inl (x4 + 1)] (q := 248) DM_X1_give_245 rfl kM_X1_give lRX1_30 sh_45 rfl rfl (by omega) (Nat.le_of_ble_eq_true rfl) rfl (Cl.imp h (fun vv μ27 h => ?_))
        obtain ⟨v28, hv, h⟩ := h
        refine ⟨v28, hv, ?_⟩
        refine r_iconst (q := 249) (n := 2) DM_X1_give_248 rfl ?_
        refine r_imul (q := 250) DM_X1_give_249 rfl ?_
        exact r_ret (v := some (.inl (v28 * 2))) ⟨DM_X1_give_250, Or.inl rfl⟩ h
    · replace h := h.1 cc
      refine r_iconst (q := 252) (n := 0) DM_X1_give_251 rfl ?_
      exact r_ret (v := some (.inl 0)) ⟨DM_X1_give_252, Or.inl rfl⟩ h
  · replace h := h.2 cc
    refine r_iconst (q := 8) (n := 0) DM_X1_give_7 rfl ?_
    exact r_ret (v := some (.inl 0)) ⟨DM_X1_give_8, Or.inl rfl⟩ h
set_option maxRecDepth 20000 in
theorem s_X7_ask {E : Ex} {μ : Mem} {Q : Option Vl → Mem → Prop} {x1 x2 : Int}  (ix1 : inR x1) (ix2 : inR x2) (h : inR (μ 4 1) ∧ (¬ (0 ≤ x1 ∧ x1 < μ 4 1) → Q (some (.inl (-1000001))) μ) ∧ ((0 ≤ x1 ∧ x1 < μ 4 1) → ((0 ≤ x2 ∧ x2 < 2) → Cl E 21 M_X1_answer [.inr 45, .inr 4, .inl x1, .inl x2] μ (fun vv μ2 => ∃ v3, vv = some (.inl v3) ∧ Q (some (.inl v3)) μ2)) ∧ (¬ (0 ≤ x2 ∧ x2 < 2) → Q (some (.inl (-1000001))) μ))) : Cl E 22 M_X7_ask [.inr 0, .inl x1, .inl x2] μ Q := by
  show Gg E 22 M_X7_ask 0 [some (.inr 0), some (.inl x1), some (.inl x2)] [] μ Q
  refine r_aloadn (q := 1) DM_X7_ask_0 rfl rfl ?_
  refine r_iloadn (q := 2) DM_X7_ask_1 rfl rfl ?_
  have i1 := h.1
  replace h := h.2
  refine r_callVi [.inl x1] (q := 5) DM_X7_ask_2 rfl kM_X7_isPerson lRX7_187 sh_0 rfl rfl (by decide) (Nat.le_of_ble_eq_true rfl) rfl (k_X7_isPerson ix1 i1 ⟨_, rfl, ?_⟩)
  refine r_bieq (q := 8) (t := 16) DM_X7_ask_5 rfl (by decide) ⟨fun cc => ?_, fun cc => ?_⟩
  · replace h := h.1 cc
    refine r_ldc (q := 18) (n := (-1000001)) DM_X7_ask_16 rfl nRX7_69 ?_
    exact r_ret (v := some (.inl (-1000001))) ⟨DM_X7_ask_18, Or.inl rfl⟩ h
  · replace h := h.2 cc
    refine r_iloadn (q := 9) DM_X7_ask_8 rfl rfl ?_
    refine r_iconst (q := 10) (n := 2) DM_X7_ask_9 rfl ?_
    refine r_callSi [.inl x2, .inl 2] (q := 13) DM_X7_ask_10 rfl kM_X7_isIn lRX7_65 rfl (by decide) (Nat.le_of_ble_eq_true rfl) rfl (k_X7_isIn ix2 (by decide) ⟨_, rfl, ?_⟩)
    refine r_bine (q := 16) (t := 19) DM_X7_ask_13 rfl (by decide) ⟨fun cc => ?_, fun cc => ?_⟩
    · replace h := h.1 cc
      refine r_aloadn (q := 20) DM_X7_ask_19 rfl rfl ?_
      refine r_getR (q := 23) (r := 45) DM_X7_ask_20 rfl fRX7_60 sh_0 rfl ?_
      refine r_aloadn (q := 24) DM_X7_ask_23 rfl rfl ?_
      refine r_getR (q := 27) (r := 4) DM_X7_ask_24 rfl fRX7_25 sh_0 rfl ?_
      refine r_iloadn (q := 28) DM_X7_ask_27 rfl rfl ?_
      refine r_iloadn (q := 29) DM_X7_ask_28 rfl rfl ?_
      refine r_callVi [.inr 4, .inl x1, .inl x2] (q := 32) DM_X7_ask_29 rfl kM_X1_answer lRX7_261 sh_45 rfl rfl (by decide) (Nat.le_of_ble_eq_true rfl) rfl (Cl.imp h (fun vv μ2 h => ?_))
      obtain ⟨v3, hv, h⟩ := h
      refine ⟨v3, hv, ?_⟩
      exact r_ret (v := some (.inl v3)) ⟨DM_X7_ask_32, Or.inl rfl⟩ h
    · replace h := h.2 cc
      refine r_ldc (q := 18) (n := (-1000001)) DM_X7_ask_16 rfl nRX7_69 ?_
      exact r_ret (v := some (.inl (-1000001))) ⟨DM_X7_ask_18, Or.inl rfl⟩ h
set_option maxRecDepth 20000 in
theorem s_X8_begins {E : Ex} {μ : Mem} {Q : Option Vl → Mem → Prop} {x1 : Int}  (h : inR (μ 83 21) ∧ ((μ 83 21) ≥ 16 → Q none μ) ∧ (¬ (μ 83 21) ≥ 16 → (0 ≤ (μ 83 21) ∧ (μ 83 21) < 16) ∧ ∀ μ2 : Mem, μ2 = up μ 95 (μ 83 21) x1 → ∀ μ4 : Mem, μ4 = up μ2 83 21 ((μ2 83 21) + 1) → Q none μ4)) : Cl E 0 M_X8_begins [.inr 83, .inl x1] μ Q := by
  show Gg E 0 M_X8_begins 0 [some (.inr 83), some (.inl x1)] [] μ Q
  refine r_aloadn (q := 1) DM_X8_begins_0 rfl rfl ?_
  refine v_getI (q := 4) (ji := 21) DM_X8_begins_1 rfl fRX8_248 sh_83 rfl rfl ?_
  refine r_bipush (q := 6) (n := 16) DM_X8_begins_4 rfl (by decide) ?_
  have i1 := h.1
  replace h := h.2
  refine r_icge (q := 9) (t := 29) DM_X8_begins_6 rfl (by decide) ⟨⟨i1, (by decide)⟩, fun cc => ?_, fun cc => ?_⟩
  · replace h := h.1 cc
    exact r_ret (v := none) ⟨DM_X8_begins_29, rfl⟩ h
  · replace h := h.2 cc
    refine r_aloadn (q := 10) DM_X8_begins_9 rfl rfl ?_
    refine r_getR (q := 13) (r := 95) DM_X8_begins_10 rfl fRX8_44 sh_83 rfl ?_
    refine r_aloadn (q := 14) DM_X8_begins_13 rfl rfl ?_
    refine v_getI (q := 17) (ji := 21) DM_X8_begins_14 rfl fRX8_248 sh_83 rfl rfl ?_
    refine r_iloadn (q := 18) DM_X8_begins_17 rfl rfl ?_
    refine v_iast (q := 19) DM_X8_begins_18 rfl sh_95 (by decide) ⟨h.1, fun μ2 e2 => ?_⟩
    have i3 := h.1
    replace h := h.2 μ2 e2
    refine r_aloadn (q := 20) DM_X8_begins_19 rfl rfl ?_
    refine r_dup (q := 21) DM_X8_begins_20 rfl ?_
    refine v_getI (q := 24) (ji := 21) DM_X8_begins_21 rfl fRX8_248 sh_83 rfl rfl ?_
    refine r_iconst (q := 25) (n := 1) DM_X8_begins_24 rfl ?_
    refine r_iadd (q := 26) DM_X8_begins_25 rfl ?_
    refine v_put (q := 29) (ji := 21) DM_X8_begins_26 rfl pfRX8_248 sh_83 rfl rfl (Or.inl rfl) (fun μ4 e4 => ?_)
    replace h := h μ4 e4
    exact r_ret (v := none) ⟨DM_X8_begins_29, rfl⟩ h
set_option maxRecDepth 20000 in
theorem s_X8_plainMark {E : Ex} {μ : Mem} {Q : Option Vl → Mem → Prop} {x1 : Int}  (h : (0 ≤ 13 + 13 * x1 + 0 ∧ 13 + 13 * x1 + 0 < 91) ∧ inR (μ 89 (13 + 13 * x1 + 0)) ∧ ((μ 89 (13 + 13 * x1 + 0)) = 1 → Gg E 1 M_X8_plainMark 31 [some (.inr 83), some (.inl x1), some (.inl (μ 89 (13 + 13 * x1 + 0))), none] [] μ Q) ∧ (¬ (μ 89 (13 + 13 * x1 + 0)) = 1 → ((μ 89 (13 + 13 * x1 + 0)) ≠ 2 → Cl E 0 M_X8_begins [.inr 83, .inl 22] μ (fun vv μ3 => vv = none ∧ Gg E 1 M_X8_plainMark 31 [some (.inr 83), some (.inl x1), some (.inl (μ 89 (13 + 13 * x1 + 0))), none] [] μ3 Q)) ∧ ((μ 89 (13 + 13 * x1 + 0)) = 2 → Cl E 0 M_X8_begins [.inr 83, .inl 24] μ (fun vv μ5 => vv = none ∧ Gg E 1 M_X8_plainMark 31 [some (.inr 83), some (.inl x1), some (.inl (μ 89 (13 + 13 * x1 + 0))), none] [] μ5 Q)))) : Cl E 1 M_X8_plainMark [.inr 83, .inl x1] μ Q := by
  show Gg E 1 M_X8_plainMark 0 [some (.inr 83), some (.inl x1), none, none] [] μ Q
  refine r_aloadn (q := 1) DM_X8_plainMark_0 rfl rfl ?_
  refine r_getR (q := 4) (r := 89) DM_X8_plainMark_1 rfl fRX8_25 sh_83 rfl ?_
  refine r_iloadn (q := 5) DM_X8_plainMark_4 rfl rfl ?_
  refine r_iconst (q := 6) (n := 0) DM_X8_plainMark_5 rfl ?_
  have i1 := h.1
  replace h := h.2
  refine r_callSi [.inr 89, .inl x1, .inl 0] (q := 9) DM_X8_plainMark_6 rfl kM_X8_of lRX8_158 rfl (by decide) (Nat.le_of_ble_eq_true rfl) rfl (k_X8_of sh_89 i1 ⟨_, rfl, ?_⟩)
  refine v_istoren (q := 10) (ls' := [some (.inr 83), some (.inl x1), some (.inl (μ 89 (13 + 13 * x1 + 0))), none]) DM_X8_plainMark_9 rfl (by decide) rfl ?_
  refine r_iloadn (q := 11) DM_X8_plainMark_10 rfl rfl ?_
  refine r_iconst (q := 12) (n := 1) DM_X8_plainMark_11 rfl ?_
  have i2 := h.1
  replace h := h.2
  refine r_iceq (q := 15) (t := 31) DM_X8_plainMark_12 rfl (by decide) ⟨⟨i2, (by decide)⟩, fun cc => ?_, fun cc => ?_⟩
  · replace h := h.1 cc
    exact h
  · replace h := h.2 cc
    refine r_aloadn (q := 16) DM_X8_plainMark_15 rfl rfl ?_
    refine r_iloadn (q := 17) DM_X8_plainMark_16 rfl rfl ?_
    refine r_iconst (q := 18) (n := 2) DM_X8_plainMark_17 rfl ?_
    refine r_icne (q := 21) (t := 26) DM_X8_plainMark_18 rfl (by decide) ⟨⟨i2, (by decide)⟩, fun cc => ?_, fun cc => ?_⟩
    · replace h := h.1 cc
      refine r_bipush (q := 28) (n := 22) DM_X8_plainMark_26 rfl (by decide) ?_
      refine r_callVv [.inl 22] (q := 31) DM_X8_plainMark_28 rfl kM_X8_begins lRX8_251 sh_83 rfl rfl (by decide) (Nat.le_of_ble_eq_true rfl) rfl (Cl.imp h (fun vv μ3 h => ?_))
      obtain ⟨hv, h⟩ := h
      refine ⟨hv, ?_⟩
      exact h
    · replace h := h.2 cc
      refine r_bipush (q := 23) (n := 24) DM_X8_plainMark_21 rfl (by decide) ?_
      refine r_goto (q := 28) DM_X8_plainMark_23 (by decide) ?_
      refine r_callVv [.inl 24] (q := 31) DM_X8_plainMark_28 rfl kM_X8_begins lRX8_251 sh_83 rfl rfl (by decide) (Nat.le_of_ble_eq_true rfl) rfl (Cl.imp h (fun vv μ5 h => ?_))
      obtain ⟨hv, h⟩ := h
      refine ⟨hv, ?_⟩
      exact h
set_option maxRecDepth 20000 in
theorem s_X8_plainMark_31 {E : Ex} {μ : Mem} {Q : Option Vl → Mem → Prop} {x1 x2 : Int}  (h : Cl E 0 M_X8_begins [.inr 83, .inl 21] μ (fun vv μ1 => vv = none ∧ Cl E 0 M_X8_begins [.inr 83, .inl 20] μ1 (fun vv μ3 => vv = none ∧ (0 ≤ 13 + 13 * x1 + 3 ∧ 13 + 13 * x1 + 3 < 91) ∧ inR x2 ∧ (x2 ≠ 2 → (x2 ≠ 3 → Q (some (.inl (x1 + (μ3 89 (13 + 13 * x1 + 3))))) μ3) ∧ (x2 = 3 → Q (some (.inl ((x1 + (μ3 89 (13 + 13 * x1 + 3))) - 1000))) μ3)) ∧ (x2 = 2 → Q (some (.inl (2 * (x1 + (μ3 89 (13 + 13 * x1 + 3)))))) μ3)))) : Gg E 1 M_X8_plainMark 31 [some (.inr 83), some (.inl x1), some (.inl x2), none] [] μ Q := by
  refine r_aloadn (q := 32) DM_X8_plainMark_31 rfl rfl ?_
  refine r_bipush (q := 34) (n := 21) DM_X8_plainMark_32 rfl (by decide) ?_
  refine r_callVv [.inl 21] (q := 37) DM_X8_plainMark_34 rfl kM_X8_begins lRX8_251 sh_83 rfl rfl (by decide) (Nat.le_of_ble_eq_true rfl) rfl (Cl.imp h (fun vv μ1 h => ?_))
  obtain ⟨hv, h⟩ := h
  refine ⟨hv, ?_⟩
  refine r_aloadn (q := 38) DM_X8_plainMark_37 rfl rfl ?_
  refine r_bipush (q := 40) (n := 20) DM_X8_plainMark_38 rfl (by decide) ?_
  refine r_callVv [.inl 20] (q := 43) DM_X8_plainMark_40 rfl kM_X8_begins lRX8_251 sh_83 rfl rfl (by decide) (Nat.le_of_ble_eq_true rfl) rfl (Cl.imp h (fun vv μ3 h => ?_))
  obtain ⟨hv, h⟩ := h
  refine ⟨hv, ?_⟩
  refine r_iloadn (q := 44) DM_X8_plainMark_43 rfl rfl ?_
  refine r_aloadn (q := 45) DM_X8_plainMark_44 rfl rfl ?_
  refine r_getR (q := 48) (r := 89) DM_X8_plainMark_45 rfl fRX8_25 sh_83 rfl ?_
  refine r_iloadn (q := 49) DM_X8_plainMark_48 rfl rfl ?_
  refine r_iconst (q := 50) (n := 3) DM_X8_plainMark_49 rfl ?_
  have i5 := h.1
  replace h := h.2
  refine r_callSi [.inr 89, .inl x1, .inl 3] (q := 53) DM_X8_plainMark_50 rfl kM_X8_of lRX8_158 rfl (by decide) (Nat.le_of_ble_eq_true rfl) rfl (k_X8_of sh_89 i5 ⟨_, rfl, ?_⟩)
  refine r_iadd (q := 54) DM_X8_plainMark_53 rfl ?_
  refine v_istoren (q := 55) (ls' := [some (.inr 83), some (.inl x1), some (.inl x2), some (.inl (x1 + (μ3 89 (13 + 13 * x1 + 3))))]) DM_X8_plainMark_54 rfl (by decide) rfl ?_
  refine r_iloadn (q := 56) DM_X8_plainMark_55 rfl rfl ?_
  refine r_iconst (q := 57) (n := 2) DM_X8_plainMark_56 rfl ?_
  have i6 := h.1
  replace h := h.2
  refine r_icne (q := 60) (t := 66) DM_X8_plainMark_57 rfl (by decide) ⟨⟨i6, (by decide)⟩, fun cc => ?_, fun cc => ?_⟩
  · replace h := h.1 cc
    refine r_iloadn (q := 67) DM_X8_plainMark_66 rfl rfl ?_
    refine r_iconst (q := 68) (n := 3) DM_X8_plainMark_67 rfl ?_
    refine r_icne (q := 71) (t := 79) DM_X8_plainMark_68 rfl (by decide) ⟨⟨i6, (by decide)⟩, fun cc => ?_, fun cc => ?_⟩
    · replace h := h.1 cc
      refine r_iloadn (q := 80) DM_X8_plainMark_79 rfl rfl ?_
      exact r_ret (v := some (.inl (x1 + (μ3 89 (13 + 13 * x1 + 3))))) ⟨DM_X8_plainMark_80, Or.inl rfl⟩ h
    · replace h := h.2 cc
      refine r_iloadn (q := 72) DM_X8_plainMark_71 rfl rfl ?_
      refine r_sipush (q := 75) (n := 1000) DM_X8_plainMark_72 rfl (by decide) ?_
      refine r_isub (q := 76) DM_X8_plainMark_75 rfl ?_
      refine r_goto (q := 80) DM_X8_plainMark_76 (by decide) ?_
      exact r_ret (v := some (.inl ((x1 + (μ3 89 (13 + 13 * x1 + 3))) - 1000))) ⟨DM_X8_plainMark_80, Or.inl rfl⟩ h
  · replace h := h.2 cc
    refine r_iconst (q := 61) (n := 2) DM_X8_plainMark_60 rfl ?_
    refine r_iloadn (q := 62) DM_X8_plainMark_61 rfl rfl ?_
    refine r_imul (q := 63) DM_X8_plainMark_62 rfl ?_
    refine r_goto (q := 80) DM_X8_plainMark_63 (by decide) ?_
    exact r_ret (v := some (.inl (2 * (x1 + (μ3 89 (13 + 13 * x1 + 3)))))) ⟨DM_X8_plainMark_80, Or.inl rfl⟩ h
set_option maxRecDepth 20000 in
theorem s_X8_saintSize {E : Ex} {μ : Mem} {Q : Option Vl → Mem → Prop} {x1 : Int}  (h : (0 ≤ 13 + 13 * x1 + 0 ∧ 13 + 13 * x1 + 0 < 91) ∧ inR (μ 89 (13 + 13 * x1 + 0)) ∧ ((μ 89 (13 + 13 * x1 + 0)) ≠ 5 → Gg E 1 M_X8_saintSize 29 [some (.inr 83), some (.inl x1), some (.inl 0), none] [] μ Q) ∧ ((μ 89 (13 + 13 * x1 + 0)) = 5 → Cl E 0 M_X8_begins [.inr 83, .inl 14] μ (fun vv μ3 => vv = none ∧ Gg E 1 M_X8_saintSize 29 [some (.inr 83), some (.inl x1), some (.inl 1), none] [] μ3 Q))) : Cl E 1 M_X8_saintSize [.inr 83, .inl x1] μ Q := by
  show Gg E 1 M_X8_saintSize 0 [some (.inr 83), some (.inl x1), none, none] [] μ Q
  refine r_aloadn (q := 1) DM_X8_saintSize_0 rfl rfl ?_
  refine r_getR (q := 4) (r := 89) DM_X8_saintSize_1 rfl fRX8_25 sh_83 rfl ?_
  refine r_iloadn (q := 5) DM_X8_saintSize_4 rfl rfl ?_
  refine r_iconst (q := 6) (n := 0) DM_X8_saintSize_5 rfl ?_
  have i1 := h.1
  replace h := h.2
  refine r_callSi [.inr 89, .inl x1, .inl 0] (q := 9) DM_X8_saintSize_6 rfl kM_X8_of lRX8_158 rfl (by decide) (Nat.le_of_ble_eq_true rfl) rfl (k_X8_of sh_89 i1 ⟨_, rfl, ?_⟩)
  refine r_iconst (q := 10) (n := 5) DM_X8_saintSize_9 rfl ?_
  have i2 := h.1
  replace h := h.2
  refine r_icne (q := 13) (t := 17) DM_X8_saintSize_10 rfl (by decide) ⟨⟨i2, (by decide)⟩, fun cc => ?_, fun cc => ?_⟩
  · replace h := h.1 cc
    refine r_iconst (q := 18) (n := 0) DM_X8_saintSize_17 rfl ?_
    refine v_istoren (q := 19) (ls' := [some (.inr 83), some (.inl x1), some (.inl 0), none]) DM_X8_saintSize_18 rfl (by decide) rfl ?_
    refine r_iloadn (q := 20) DM_X8_saintSize_19 rfl rfl ?_
    refine r_ifeq (q := 23) (t := 29) DM_X8_saintSize_20 rfl (by decide) ⟨(by decide), fun _ => ?_, fun cc => absurd cc (by decide)⟩
    exact h
  · replace h := h.2 cc
    refine r_iconst (q := 14) (n := 1) DM_X8_saintSize_13 rfl ?_
    refine r_goto (q := 18) DM_X8_saintSize_14 (by decide) ?_
    refine v_istoren (q := 19) (ls' := [some (.inr 83), some (.inl x1), some (.inl 1), none]) DM_X8_saintSize_18 rfl (by decide) rfl ?_
    refine r_iloadn (q := 20) DM_X8_saintSize_19 rfl rfl ?_
    refine r_ifeq (q := 23) (t := 29) DM_X8_saintSize_20 rfl (by decide) ⟨(by decide), fun cc => absurd cc (by decide), fun _ => ?_⟩
    refine r_aloadn (q := 24) DM_X8_saintSize_23 rfl rfl ?_
    refine r_bipush (q := 26) (n := 14) DM_X8_saintSize_24 rfl (by decide) ?_
    refine r_callVv [.inl 14] (q := 29) DM_X8_saintSize_26 rfl kM_X8_begins lRX8_251 sh_83 rfl rfl (by decide) (Nat.le_of_ble_eq_true rfl) rfl (Cl.imp h (fun vv μ3 h => ?_))
    obtain ⟨hv, h⟩ := h
    refine ⟨hv, ?_⟩
    exact h
set_option maxRecDepth 20000 in
theorem s_X8_saintSize_29 {E : Ex} {μ : Mem} {Q : Option Vl → Mem → Prop} {x1 x2 : Int}  (h : Cl E 0 M_X8_begins [.inr 83, .inl 13] μ (fun vv μ1 => vv = none ∧ Cl E 0 M_X8_begins [.inr 83, .inl 10] μ1 (fun vv μ3 => vv = none ∧ (0 ≤ 13 + 13 * x1 + 1 ∧ 13 + 13 * x1 + 1 < 91) ∧ inR x2 ∧ (x2 = 0 → Q (some (.inl ((μ3 89 (13 + 13 * x1 + 1)) - 100))) μ3) ∧ (¬ x2 = 0 → Q (some (.inl (2 * ((μ3 89 (13 + 13 * x1 + 1)) - 100)))) μ3)))) : Gg E 1 M_X8_saintSize 29 [some (.inr 83), some (.inl x1), some (.inl x2), none] [] μ Q := by
  refine r_aloadn (q := 30) DM_X8_saintSize_29 rfl rfl ?_
  refine r_bipush (q := 32) (n := 13) DM_X8_saintSize_30 rfl (by decide) ?_
  refine r_callVv [.inl 13] (q := 35) DM_X8_saintSize_32 rfl kM_X8_begins lRX8_251 sh_83 rfl rfl (by decide) (Nat.le_of_ble_eq_true rfl) rfl (Cl.imp h (fun vv μ1 h => ?_))
  obtain ⟨hv, h⟩ := h
  refine ⟨hv, ?_⟩
  refine r_aloadn (q := 36) DM_X8_saintSize_35 rfl rfl ?_
  refine r_bipush (q := 38) (n := 10) DM_X8_saintSize_36 rfl (by decide) ?_
  refine r_callVv [.inl 10] (q := 41) DM_X8_saintSize_38 rfl kM_X8_begins lRX8_251 sh_83 rfl rfl (by decide) (Nat.le_of_ble_eq_true rfl) rfl (Cl.imp h (fun vv μ3 h => ?_))
  obtain ⟨hv, h⟩ := h
  refine ⟨hv, ?_⟩
  refine r_aloadn (q := 42) DM_X8_saintSize_41 rfl rfl ?_
  refine r_getR (q := 45) (r := 89) DM_X8_saintSize_42 rfl fRX8_25 sh_83 rfl ?_
  refine r_iloadn (q := 46) DM_X8_saintSize_45 rfl rfl ?_
  refine r_iconst (q := 47) (n := 1) DM_X8_saintSize_46 rfl ?_
  have i5 := h.1
  replace h := h.2
  refine r_callSi [.inr 89, .inl x1, .inl 1] (q := 50) DM_X8_saintSize_47 rfl kM_X8_of lRX8_158 rfl (by decide) (Nat.le_of_ble_eq_true rfl) rfl (k_X8_of sh_89 i5 ⟨_, rfl, ?_⟩)
  refine r_bipush (q := 52) (n := 100) DM_X8_saintSize_50 rfl (by decide) ?_
  refine r_isub (q := 53) DM_X8_saintSize_52 rfl ?_
  refine v_istoren (q := 54) (ls' := [some (.inr 83), some (.inl x1), some (.inl x2), some (.inl ((μ3 89 (13 + 13 * x1 + 1)) - 100))]) DM_X8_saintSize_53 rfl (by decide) rfl ?_
  refine r_iloadn (q := 55) DM_X8_saintSize_54 rfl rfl ?_
  have i6 := h.1
  replace h := h.2
  refine r_ifeq (q := 58) (t := 64) DM_X8_saintSize_55 rfl (by decide) ⟨i6, fun cc => ?_, fun cc => ?_⟩
  · replace h := h.1 cc
    refine r_iloadn (q := 65) DM_X8_saintSize_64 rfl rfl ?_
    exact r_ret (v := some (.inl ((μ3 89 (13 + 13 * x1 + 1)) - 100))) ⟨DM_X8_saintSize_65, Or.inl rfl⟩ h
  · replace h := h.2 cc
    refine r_iconst (q := 59) (n := 2) DM_X8_saintSize_58 rfl ?_
    refine r_iloadn (q := 60) DM_X8_saintSize_59 rfl rfl ?_
    refine r_imul (q := 61) DM_X8_saintSize_60 rfl ?_
    refine r_goto (q := 65) DM_X8_saintSize_61 (by decide) ?_
    exact r_ret (v := some (.inl (2 * ((μ3 89 (13 + 13 * x1 + 1)) - 100)))) ⟨DM_X8_saintSize_65, Or.inl rfl⟩ h
set_option maxRecDepth 20000 in
theorem s_X8_plainSize {E : Ex} {μ : Mem} {Q : Option Vl → Mem → Prop} {x1 : Int}  (h : (0 ≤ 13 + 13 * x1 + 0 ∧ 13 + 13 * x1 + 0 < 91) ∧ inR (μ 89 (13 + 13 * x1 + 0)) ∧ ((μ 89 (13 + 13 * x1 + 0)) ≠ 2 → Gg E 2 M_X8_plainSize 29 [some (.inr 83), some (.inl x1), some (.inl 0), none] [] μ Q) ∧ ((μ 89 (13 + 13 * x1 + 0)) = 2 → Cl E 0 M_X8_begins [.inr 83, .inl 12] μ (fun vv μ3 => vv = none ∧ Gg E 2 M_X8_plainSize 29 [some (.inr 83), some (.inl x1), some (.inl 1), none] [] μ3 Q))) : Cl E 2 M_X8_plainSize [.inr 83, .inl x1] μ Q := by
  show Gg E 2 M_X8_plainSize 0 [some (.inr 83), some (.inl x1), none, none] [] μ Q
  refine r_aloadn (q := 1) DM_X8_plainSize_0 rfl rfl ?_
  refine r_getR (q := 4) (r := 89) DM_X8_plainSize_1 rfl fRX8_25 sh_83 rfl ?_
  refine r_iloadn (q := 5) DM_X8_plainSize_4 rfl rfl ?_
  refine r_iconst (q := 6) (n := 0) DM_X8_plainSize_5 rfl ?_
  have i1 := h.1
  replace h := h.2
  refine r_callSi [.inr 89, .inl x1, .inl 0] (q := 9) DM_X8_plainSize_6 rfl kM_X8_of lRX8_158 rfl (by decide) (Nat.le_of_ble_eq_true rfl) rfl (k_X8_of sh_89 i1 ⟨_, rfl, ?_⟩)
  refine r_iconst (q := 10) (n := 2) DM_X8_plainSize_9 rfl ?_
  have i2 := h.1
  replace h := h.2
  refine r_icne (q := 13) (t := 17) DM_X8_plainSize_10 rfl (by decide) ⟨⟨i2, (by decide)⟩, fun cc => ?_, fun cc => ?_⟩
  · replace h := h.1 cc
    refine r_iconst (q := 18) (n := 0) DM_X8_plainSize_17 rfl ?_
    refine v_istoren (q := 19) (ls' := [some (.inr 83), some (.inl x1), some (.inl 0), none]) DM_X8_plainSize_18 rfl (by decide) rfl ?_
    refine r_iloadn (q := 20) DM_X8_plainSize_19 rfl rfl ?_
    refine r_ifeq (q := 23) (t := 29) DM_X8_plainSize_20 rfl (by decide) ⟨(by decide), fun _ => ?_, fun cc => absurd cc (by decide)⟩
    exact h
  · replace h := h.2 cc
    refine r_iconst (q := 14) (n := 1) DM_X8_plainSize_13 rfl ?_
    refine r_goto (q := 18) DM_X8_plainSize_14 (by decide) ?_
    refine v_istoren (q := 19) (ls' := [some (.inr 83), some (.inl x1), some (.inl 1), none]) DM_X8_plainSize_18 rfl (by decide) rfl ?_
    refine r_iloadn (q := 20) DM_X8_plainSize_19 rfl rfl ?_
    refine r_ifeq (q := 23) (t := 29) DM_X8_plainSize_20 rfl (by decide) ⟨(by decide), fun cc => absurd cc (by decide), fun _ => ?_⟩
    refine r_aloadn (q := 24) DM_X8_plainSize_23 rfl rfl ?_
    refine r_bipush (q := 26) (n := 12) DM_X8_plainSize_24 rfl (by decide) ?_
    refine r_callVv [.inl 12] (q := 29) DM_X8_plainSize_26 rfl kM_X8_begins lRX8_251 sh_83 rfl rfl (by decide) (Nat.le_of_ble_eq_true rfl) rfl (Cl.imp h (fun vv μ3 h => ?_))
    obtain ⟨hv, h⟩ := h
    refine ⟨hv, ?_⟩
    exact h
set_option maxRecDepth 20000 in
theorem s_X8_plainSize_29 {E : Ex} {μ : Mem} {Q : Option Vl → Mem → Prop} {x1 x2 : Int}  (h : Cl E 0 M_X8_begins [.inr 83, .inl 11] μ (fun vv μ1 => vv = none ∧ Cl E 0 M_X8_begins [.inr 83, .inl 10] μ1 (fun vv μ3 => vv = none ∧ (0 ≤ 13 + 13 * x1 + 1 ∧ 13 + 13 * x1 + 1 < 91) ∧ Cl E 1 M_X8_plainMark [.inr 83, .inl x1] μ3 (fun vv μ6 => ∃ v7, vv = some (.inl v7) ∧ inR x2 ∧ (x2 = 0 → Q (some (.inl ((μ3 89 (13 + 13 * x1 + 1)) + v7))) μ6) ∧ (¬ x2 = 0 → Q (some (.inl (-((μ3 89 (13 + 13 * x1 + 1)) + v7)))) μ6))))) : Gg E 2 M_X8_plainSize 29 [some (.inr 83), some (.inl x1), some (.inl x2), none] [] μ Q := by
  refine r_aloadn (q := 30) DM_X8_plainSize_29 rfl rfl ?_
  refine r_bipush (q := 32) (n := 11) DM_X8_plainSize_30 rfl (by decide) ?_
  refine r_callVv [.inl 11] (q := 35) DM_X8_plainSize_32 rfl kM_X8_begins lRX8_251 sh_83 rfl rfl (by decide) (Nat.le_of_ble_eq_true rfl) rfl (Cl.imp h (fun vv μ1 h => ?_))
  obtain ⟨hv, h⟩ := h
  refine ⟨hv, ?_⟩
  refine r_aloadn (q := 36) DM_X8_plainSize_35 rfl rfl ?_
  refine r_bipush (q := 38) (n := 10) DM_X8_plainSize_36 rfl (by decide) ?_
  refine r_callVv [.inl 10] (q := 41) DM_X8_plainSize_38 rfl kM_X8_begins lRX8_251 sh_83 rfl rfl (by decide) (Nat.le_of_ble_eq_true rfl) rfl (Cl.imp h (fun vv μ3 h => ?_))
  obtain ⟨hv, h⟩ := h
  refine ⟨hv, ?_⟩
  refine r_aloadn (q := 42) DM_X8_plainSize_41 rfl rfl ?_
  refine r_getR (q := 45) (r := 89) DM_X8_plainSize_42 rfl fRX8_25 sh_83 rfl ?_
  refine r_iloadn (q := 46) DM_X8_plainSize_45 rfl rfl ?_
  refine r_iconst (q := 47) (n := 1) DM_X8_plainSize_46 rfl ?_
  have i5 := h.1
  replace h := h.2
  refine r_callSi [.inr 89, .inl x1, .inl 1] (q := 50) DM_X8_plainSize_47 rfl kM_X8_of lRX8_158 rfl (by decide) (Nat.le_of_ble_eq_true rfl) rfl (k_X8_of sh_89 i5 ⟨_, rfl, ?_⟩)
  refine r_aloadn (q := 51) DM_X8_plainSize_50 rfl rfl ?_
  refine r_iloadn (q := 52) DM_X8_plainSize_51 rfl rfl ?_
  refine r_callVi [.inl x1] (q := 55) DM_X8_plainSize_52 rfl kM_X8_plainMark lRX8_254 sh_83 rfl rfl (by decide) (Nat.le_of_ble_eq_true rfl) rfl (Cl.imp h (fun vv μ6 h => ?_))
  obtain ⟨v7, hv, h⟩ := h
  refine ⟨v7, hv, ?_⟩
  refine r_iadd (q := 56) DM_X8_plainSize_55 rfl ?_
  refine v_istoren (q := 57) (ls' := [some (.inr 83), some (.inl x1), some (.inl x2), some (.inl ((μ3 89 (13 + 13 * x1 + 1)) + v7))]) DM_X8_plainSize_56 rfl (by decide) rfl ?_
  refine r_iloadn (q := 58) DM_X8_plainSize_57 rfl rfl ?_
  have i8 := h.1
  replace h := h.2
  refine r_ifeq (q := 61) (t := 66) DM_X8_plainSize_58 rfl (by decide) ⟨i8, fun cc => ?_, fun cc => ?_⟩
  · replace h := h.1 cc
    refine r_iloadn (q := 67) DM_X8_plainSize_66 rfl rfl ?_
    exact r_ret (v := some (.inl ((μ3 89 (13 + 13 * x1 + 1)) + v7))) ⟨DM_X8_plainSize_67, Or.inl rfl⟩ h
  · replace h := h.2 cc
    refine r_iloadn (q := 62) DM_X8_plainSize_61 rfl rfl ?_
    refine r_ineg (q := 63) DM_X8_plainSize_62 rfl ?_
    refine r_goto (q := 67) DM_X8_plainSize_63 (by decide) ?_
    exact r_ret (v := some (.inl (-((μ3 89 (13 + 13 * x1 + 1)) + v7)))) ⟨DM_X8_plainSize_67, Or.inl rfl⟩ h
set_option maxRecDepth 20000 in
theorem s_X8_saintMark {E : Ex} {μ : Mem} {Q : Option Vl → Mem → Prop} {x1 : Int}  (h : Cl E 0 M_X8_begins [.inr 83, .inl 23] μ (fun vv μ1 => vv = none ∧ Cl E 0 M_X8_begins [.inr 83, .inl 20] μ1 (fun vv μ3 => vv = none ∧ Cl E 1 M_X8_saintSize [.inr 83, .inl x1] μ3 (fun vv μ5 => ∃ v6, vv = some (.inl v6) ∧ Q (some (.inl (x1 - v6))) μ5)))) : Cl E 2 M_X8_saintMark [.inr 83, .inl x1] μ Q := by
  show Gg E 2 M_X8_saintMark 0 [some (.inr 83), some (.inl x1)] [] μ Q
  refine r_aloadn (q := 1) DM_X8_saintMark_0 rfl rfl ?_
  refine r_bipush (q := 3) (n := 23) DM_X8_saintMark_1 rfl (by decide) ?_
  refine r_callVv [.inl 23] (q := 6) DM_X8_saintMark_3 rfl kM_X8_begins lRX8_251 sh_83 rfl rfl (by decide) (Nat.le_of_ble_eq_true rfl) rfl (Cl.imp h (fun vv μ1 h => ?_))
  obtain ⟨hv, h⟩ := h
  refine ⟨hv, ?_⟩
  refine r_aloadn (q := 7) DM_X8_saintMark_6 rfl rfl ?_
  refine r_bipush (q := 9) (n := 20) DM_X8_saintMark_7 rfl (by decide) ?_
  refine r_callVv [.inl 20] (q := 12) DM_X8_saintMark_9 rfl kM_X8_begins lRX8_251 sh_83 rfl rfl (by decide) (Nat.le_of_ble_eq_true rfl) rfl (Cl.imp h (fun vv μ3 h => ?_))
  obtain ⟨hv, h⟩ := h
  refine ⟨hv, ?_⟩
  refine r_iloadn (q := 13) DM_X8_saintMark_12 rfl rfl ?_
  refine r_aloadn (q := 14) DM_X8_saintMark_13 rfl rfl ?_
  refine r_iloadn (q := 15) DM_X8_saintMark_14 rfl rfl ?_
  refine r_callVi [.inl x1] (q := 18) DM_X8_saintMark_15 rfl kM_X8_saintSize lRX8_257 sh_83 rfl rfl (by decide) (Nat.le_of_ble_eq_true rfl) rfl (Cl.imp h (fun vv μ5 h => ?_))
  obtain ⟨v6, hv, h⟩ := h
  refine ⟨v6, hv, ?_⟩
  refine r_isub (q := 19) DM_X8_saintMark_18 rfl ?_
  exact r_ret (v := some (.inl (x1 - v6))) ⟨DM_X8_saintMark_19, Or.inl rfl⟩ h
set_option maxRecDepth 20000 in
theorem s_X8_ask {E : Ex} {μ : Mem} {Q : Option Vl → Mem → Prop} {x1 x2 : Int}  (ix1 : inR x1) (ix2 : inR x2) (h : inR (μ 89 2 - 1) ∧ (¬ (0 ≤ x1 ∧ x1 ≤ μ 89 2 - 1) → Q (some (.inl (-1000001))) μ) ∧ ((0 ≤ x1 ∧ x1 ≤ μ 89 2 - 1) → ((0 ≤ x2 ∧ x2 ≤ 1) → ∀ μ2 : Mem, μ2 = up μ 83 21 0 → (0 ≤ 13 + 13 * x1 + 0 ∧ 13 + 13 * x1 + 0 < 91) ∧ inR (μ2 89 (13 + 13 * x1 + 0)) ∧ ((μ2 89 (13 + 13 * x1 + 0)) < 4 → Gg E 3 M_X8_ask 43 [some (.inr 83), some (.inl x1), some (.inl x2), none] [.inl 0] μ2 Q) ∧ (¬ (μ2 89 (13 + 13 * x1 + 0)) < 4 → Gg E 3 M_X8_ask 43 [some (.inr 83), some (.inl x1), some (.inl x2), none] [.inl 1] μ2 Q)) ∧ (¬ (0 ≤ x2 ∧ x2 ≤ 1) → Q (some (.inl (-1000001))) μ))) : Cl E 3 M_X8_ask [.inr 83, .inl x1, .inl x2] μ Q := by
  show Gg E 3 M_X8_ask 0 [some (.inr 83), some (.inl x1), some (.inl x2), none] [] μ Q
  refine r_aloadn (q := 1) DM_X8_ask_0 rfl rfl ?_
  refine r_iloadn (q := 2) DM_X8_ask_1 rfl rfl ?_
  have i1 := h.1
  replace h := h.2
  refine r_callVi [.inl x1] (q := 5) DM_X8_ask_2 rfl kM_X8_isPerson lRX8_210 sh_83 rfl rfl (by decide) (Nat.le_of_ble_eq_true rfl) rfl (k_X8_isPerson ix1 i1 ⟨_, rfl, ?_⟩)
  refine r_bieq (q := 8) (t := 17) DM_X8_ask_5 rfl (by decide) ⟨fun cc => ?_, fun cc => ?_⟩
  · replace h := h.1 cc
    refine r_ldc (q := 19) (n := (-1000001)) DM_X8_ask_17 rfl nRX8_73 ?_
    exact r_ret (v := some (.inl (-1000001))) ⟨DM_X8_ask_19, Or.inl rfl⟩ h
  · replace h := h.2 cc
    refine r_iloadn (q := 9) DM_X8_ask_8 rfl rfl ?_
    refine r_iconst (q := 10) (n := 0) DM_X8_ask_9 rfl ?_
    refine r_iconst (q := 11) (n := 1) DM_X8_ask_10 rfl ?_
    refine r_callSi [.inl x2, .inl 0, .inl 1] (q := 14) DM_X8_ask_11 rfl kM_X8_in lRX8_65 rfl (by decide) (Nat.le_of_ble_eq_true rfl) rfl (k_X8_in ix2 (by decide) (by decide) ⟨_, rfl, ?_⟩)
    refine r_bine (q := 17) (t := 20) DM_X8_ask_14 rfl (by decide) ⟨fun cc => ?_, fun cc => ?_⟩
    · replace h := h.1 cc
      refine r_aloadn (q := 21) DM_X8_ask_20 rfl rfl ?_
      refine r_iconst (q := 22) (n := 0) DM_X8_ask_21 rfl ?_
      refine v_put (q := 25) (ji := 21) DM_X8_ask_22 rfl pfRX8_248 sh_83 rfl rfl (Or.inl rfl) (fun μ2 e2 => ?_)
      replace h := h μ2 e2
      refine r_aloadn (q := 26) DM_X8_ask_25 rfl rfl ?_
      refine r_getR (q := 29) (r := 89) DM_X8_ask_26 rfl fRX8_25 sh_83 rfl ?_
      refine r_iloadn (q := 30) DM_X8_ask_29 rfl rfl ?_
      refine r_iconst (q := 31) (n := 0) DM_X8_ask_30 rfl ?_
      have i3 := h.1
      replace h := h.2
      refine r_callSi [.inr 89, .inl x1, .inl 0] (q := 34) DM_X8_ask_31 rfl kM_X8_of lRX8_158 rfl (by decide) (Nat.le_of_ble_eq_true rfl) rfl (k_X8_of sh_89 i3 ⟨_, rfl, ?_⟩)
      refine r_iconst (q := 35) (n := 4) DM_X8_ask_34 rfl ?_
      have i4 := h.1
      replace h := h.2
      refine r_iclt (q := 38) (t := 42) DM_X8_ask_35 rfl (by decide) ⟨⟨i4, (by decide)⟩, fun cc => ?_, fun cc => ?_⟩
      · replace h := h.1 cc
        refine r_iconst (q := 43) (n := 0) DM_X8_ask_42 rfl ?_
        exact h
      · replace h := h.2 cc
        refine r_iconst (q := 39) (n := 1) DM_X8_ask_38 rfl ?_
        refine r_goto (q := 43) DM_X8_ask_39 (by decide) ?_
        exact h
    · replace h := h.2 cc
      refine r_ldc (q := 19) (n := (-1000001)) DM_X8_ask_17 rfl nRX8_73 ?_
      exact r_ret (v := some (.inl (-1000001))) ⟨DM_X8_ask_19, Or.inl rfl⟩ h
set_option maxRecDepth 20000 in
theorem s_X8_ask_43 {E : Ex} {μ : Mem} {Q : Option Vl → Mem → Prop} {x1 x2 y0 : Int}  (h : inR x2 ∧ (x2 ≠ 0 → inR y0 ∧ (y0 = 0 → Cl E 1 M_X8_plainMark [.inr 83, .inl x1] μ (fun vv μ3 => ∃ v4, vv = some (.inl v4) ∧ Q (some (.inl v4)) μ3)) ∧ (¬ y0 = 0 → Cl E 2 M_X8_saintMark [.inr 83, .inl x1] μ (fun vv μ5 => ∃ v6, vv = some (.inl v6) ∧ Q (some (.inl v6)) μ5))) ∧ (x2 = 0 → inR y0 ∧ (y0 = 0 → Cl E 2 M_X8_plainSize [.inr 83, .inl x1] μ (fun vv μ8 => ∃ v9, vv = some (.inl v9) ∧ Q (some (.inl v9)) μ8)) ∧ (¬ y0 = 0 → Cl E 1 M_X8_saintSize [.inr 83, .inl x1] μ (fun vv μ10 => ∃ v11, vv = some (.inl v11) ∧ Q (some (.inl v11)) μ10)))) : Gg E 3 M_X8_ask 43 [some (.inr 83), some (.inl x1), some (.inl x2), none] [.inl y0] μ Q := by
  refine v_istoren (q := 44) (ls' := [some (.inr 83), some (.inl x1), some (.inl x2), some (.inl y0)]) DM_X8_ask_43 rfl (by decide) rfl ?_
  refine r_iloadn (q := 45) DM_X8_ask_44 rfl rfl ?_
  have i1 := h.1
  replace h := h.2
  refine r_ifne (q := 48) (t := 66) DM_X8_ask_45 rfl (by decide) ⟨i1, fun cc => ?_, fun cc => ?_⟩
  · replace h := h.1 cc
    refine r_iloadn (q := 67) DM_X8_ask_66 rfl rfl ?_
    have i2 := h.1
    replace h := h.2
    refine r_ifeq (q := 70) (t := 78) DM_X8_ask_67 rfl (by decide) ⟨i2, fun cc => ?_, fun cc => ?_⟩
    · replace h := h.1 cc
      refine r_aloadn (q := 79) DM_X8_ask_78 rfl rfl ?_
      refine r_iloadn (q := 80) DM_X8_ask_79 rfl rfl ?_
      refine r_callVi [.inl x1] (q := 83) DM_X8_ask_80 rfl kM_X8_plainMark lRX8_254 sh_83 rfl rfl (by decide) (Nat.le_of_ble_eq_true rfl) rfl (Cl.imp h (fun vv μ3 h => ?_))
      obtain ⟨v4, hv, h⟩ := h
      refine ⟨v4, hv, ?_⟩
      exact r_ret (v := some (.inl v4)) ⟨DM_X8_ask_83, Or.inl rfl⟩ h
    · replace h := h.2 cc
      refine r_aloadn (q := 71) DM_X8_ask_70 rfl rfl ?_
      refine r_iloadn (q := 72) DM_X8_ask_71 rfl rfl ?_
      refine r_callVi [.inl x1] (q := 75) DM_X8_ask_72 rfl kM_X8_saintMark lRX8_263 sh_83 rfl rfl (by decide) (Nat.le_of_ble_eq_true rfl) rfl (Cl.imp h (fun vv μ5 h => ?_))
      obtain ⟨v6, hv, h⟩ := h
      refine ⟨v6, hv, ?_⟩
      refine r_goto (q := 83) DM_X8_ask_75 (by decide) ?_
      exact r_ret (v := some (.inl v6)) ⟨DM_X8_ask_83, Or.inl rfl⟩ h
  · replace h := h.2 cc
    refine r_iloadn (q := 49) DM_X8_ask_48 rfl rfl ?_
    have i7 := h.1
    replace h := h.2
    refine r_ifeq (q := 52) (t := 60) DM_X8_ask_49 rfl (by decide) ⟨i7, fun cc => ?_, fun cc => ?_⟩
    · replace h := h.1 cc
      refine r_aloadn (q := 61) DM_X8_ask_60 rfl rfl ?_
      refine r_iloadn (q := 62) DM_X8_ask_61 rfl rfl ?_
      refine r_callVi [.inl x1] (q := 65) DM_X8_ask_62 rfl kM_X8_plainSize lRX8_260 sh_83 rfl rfl (by decide) (Nat.le_of_ble_eq_true rfl) rfl (Cl.imp h (fun vv μ8 h => ?_))
      obtain ⟨v9, hv, h⟩ := h
      refine ⟨v9, hv, ?_⟩
      exact r_ret (v := some (.inl v9)) ⟨DM_X8_ask_65, Or.inl rfl⟩ h
    · replace h := h.2 cc
      refine r_aloadn (q := 53) DM_X8_ask_52 rfl rfl ?_
      refine r_iloadn (q := 54) DM_X8_ask_53 rfl rfl ?_
      refine r_callVi [.inl x1] (q := 57) DM_X8_ask_54 rfl kM_X8_saintSize lRX8_257 sh_83 rfl rfl (by decide) (Nat.le_of_ble_eq_true rfl) rfl (Cl.imp h (fun vv μ10 h => ?_))
      obtain ⟨v11, hv, h⟩ := h
      refine ⟨v11, hv, ?_⟩
      refine r_goto (q := 65) DM_X8_ask_57 (by decide) ?_
      exact r_ret (v := some (.inl v11)) ⟨DM_X8_ask_65, Or.inl rfl⟩ h

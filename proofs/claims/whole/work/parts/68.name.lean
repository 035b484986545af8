/-! A court is read: a name. -/
set_option maxRecDepth 20000 in
theorem s_X4_readPerson {E : Ex} {μ : Mem} {Q : Option Vl → Mem → Prop} {x2 : Int}  (h : (0 ≤ x2 ∧ x2 < 6) ∧ ∀ μ1 : Mem, μ1 = up μ (14 + 3) x2 (((μ 2 6) - 112) + 1) → Cl E 1 M_X4_step [.inr 2] μ1 (fun vv μ3 => vv = none ∧ Gg E 3 M_X4_readPerson 21 [some (.inr 2), some (.inr 14), some (.inl x2), some (.inl 0)] [] μ3 Q)) : Cl E 3 M_X4_readPerson [.inr 2, .inr 14, .inl x2] μ Q := by
  show Gg E 3 M_X4_readPerson 0 [some (.inr 2), some (.inr 14), some (.inl x2), none] [] μ Q
  refine r_aloadn (q := 1) DM_X4_readPerson_0 rfl rfl ?_
  refine r_getR (q := 4) (r := 14 + 3) DM_X4_readPerson_1 rfl fRX4_82 (co0 cK_14) rfl ?_
  refine r_iloadn (q := 5) DM_X4_readPerson_4 rfl rfl ?_
  refine r_aloadn (q := 6) DM_X4_readPerson_5 rfl rfl ?_
  refine v_getI (q := 9) (ji := 6) DM_X4_readPerson_6 rfl fRX4_72 sh_2 rfl rfl ?_
  refine r_bipush (q := 11) (n := 112) DM_X4_readPerson_9 rfl (by decide) ?_
  refine r_isub (q := 12) DM_X4_readPerson_11 rfl ?_
  refine r_iconst (q := 13) (n := 1) DM_X4_readPerson_12 rfl ?_
  refine r_iadd (q := 14) DM_X4_readPerson_13 rfl ?_
  refine v_iast (q := 15) DM_X4_readPerson_14 rfl (co3 cK_14) (by decide) ⟨h.1, fun μ1 e1 => ?_⟩
  have i2 := h.1
  replace h := h.2 μ1 e1
  refine r_aloadn (q := 16) DM_X4_readPerson_15 rfl rfl ?_
  refine r_callVv [] (q := 19) DM_X4_readPerson_16 rfl kM_X4_step lRX4_27 sh_2 rfl rfl (by decide) (Nat.le_of_ble_eq_true rfl) rfl (Cl.imp h (fun vv μ3 h => ?_))
  obtain ⟨hv, h⟩ := h
  refine ⟨hv, ?_⟩
  refine r_iconst (q := 20) (n := 0) DM_X4_readPerson_19 rfl ?_
  refine v_istoren (q := 21) (ls' := [some (.inr 2), some (.inr 14), some (.inl x2), some (.inl 0)]) DM_X4_readPerson_20 rfl (by decide) rfl ?_
  exact h
set_option maxRecDepth 20000 in
theorem s_X4_readPerson_21 {E : Ex} {μ : Mem} {Q : Option Vl → Mem → Prop} {x2 x3 : Int}  (h : inR x3 ∧ (x3 ≥ 4 → Gg E 3 M_X4_readPerson 53 [some (.inr 2), some (.inr 14), some (.inl x2), some (.inl x3)] [] μ Q) ∧ (¬ x3 ≥ 4 → Cl E 0 M_X4_isLetter [.inr 2] μ (fun vv μ2 => ∃ v3, vv = some (.inl (bi v3)) ∧ (v3 = false → Gg E 3 M_X4_readPerson 53 [some (.inr 2), some (.inr 14), some (.inl x2), some (.inl x3)] [] μ2 Q) ∧ (v3 = true → Cl E 0 M_X4_letterOfToken [.inr 2] μ2 (fun vv μ4 => ∃ v5, vv = some (.inl v5) ∧ (0 ≤ x2 * 4 + x3 ∧ x2 * 4 + x3 < 24) ∧ ∀ μ7 : Mem, μ7 = up μ4 (14 + 5) (x2 * 4 + x3) v5 → Cl E 1 M_X4_step [.inr 2] μ7 (fun vv μ8 => vv = none ∧ Gg E 3 M_X4_readPerson 21 [some (.inr 2), some (.inr 14), some (.inl x2), some (.inl (x3 + 1))] [] μ8 Q)))))) : Gg E 3 M_X4_readPerson 21 [some (.inr 2), some (.inr 14), some (.inl x2), some (.inl x3)] [] μ Q := by
  refine r_iloadn (q := 22) DM_X4_readPerson_21 rfl rfl ?_
  refine r_iconst (q := 23) (n := 4) DM_X4_readPerson_22 rfl ?_
  have i1 := h.1
  replace h := h.2
  refine r_icge (q := 26) (t := 53) DM_X4_readPerson_23 rfl (by decide) ⟨⟨i1, (by decide)⟩, fun cc => ?_, fun cc => ?_⟩
  · replace h := h.1 cc
    exact h
  · replace h := h.2 cc
    refine r_aloadn (q := 27) DM_X4_readPerson_26 rfl rfl ?_
    refine r_callVi [] (q := 30) DM_X4_readPerson_27 rfl kM_X4_isLetter lRX4_58 sh_2 rfl rfl (by decide) (Nat.le_of_ble_eq_true rfl) rfl (Cl.imp h (fun vv μ2 h => ?_))
    obtain ⟨v3, hv, h⟩ := h
    refine ⟨_, hv, ?_⟩
    refine r_bbeq (q := 33) (t := 53) DM_X4_readPerson_30 rfl (by decide) ⟨fun cc => ?_, fun cc => ?_⟩
    · replace h := h.1 cc
      exact h
    · replace h := h.2 cc
      refine r_aloadn (q := 34) DM_X4_readPerson_33 rfl rfl ?_
      refine r_iloadn (q := 35) DM_X4_readPerson_34 rfl rfl ?_
      refine r_iloadn (q := 36) DM_X4_readPerson_35 rfl rfl ?_
      refine r_aloadn (q := 37) DM_X4_readPerson_36 rfl rfl ?_
      refine r_callVi [] (q := 40) DM_X4_readPerson_37 rfl kM_X4_letterOfToken lRX4_62 sh_2 rfl rfl (by decide) (Nat.le_of_ble_eq_true rfl) rfl (Cl.imp h (fun vv μ4 h => ?_))
      obtain ⟨v5, hv, h⟩ := h
      refine ⟨v5, hv, ?_⟩
      have i6 := h.1
      replace h := h.2
      refine r_callVv [.inl x2, .inl x3, .inl v5] (q := 43) DM_X4_readPerson_40 rfl kM_X2_putLetter lRX4_85 (co0 cK_14) rfl rfl (by decide) (Nat.le_of_ble_eq_true rfl) rfl (k_X2_putLetter cK_14 i6 (fun μ7 e7 => ⟨rfl, ?_⟩))
      replace h := h μ7 e7
      refine r_aloadn (q := 44) DM_X4_readPerson_43 rfl rfl ?_
      refine r_callVv [] (q := 47) DM_X4_readPerson_44 rfl kM_X4_step lRX4_27 sh_2 rfl rfl (by decide) (Nat.le_of_ble_eq_true rfl) rfl (Cl.imp h (fun vv μ8 h => ?_))
      obtain ⟨hv, h⟩ := h
      refine ⟨hv, ?_⟩
      refine v_iinc (q := 50) (ls' := [some (.inr 2), some (.inr 14), some (.inl x2), some (.inl (x3 + 1))]) DM_X4_readPerson_47 rfl rfl (by decide) rfl ?_
      refine r_goto (q := 21) DM_X4_readPerson_50 (by decide) ?_
      exact h
set_option maxRecDepth 20000 in
theorem s_X4_readPerson_53 {E : Ex} {μ : Mem} {Q : Option Vl → Mem → Prop} {x2 x3 : Int}  (h : inR x3 ∧ (x3 ≠ 0 → (0 ≤ x2 ∧ x2 < 6) ∧ ∀ μ2 : Mem, μ2 = up μ (14 + 4) x2 x3 → Cl E 1 M_X4_isNumberIn [.inr 2, .inl 1, .inl 30] μ2 (fun vv μ4 => ∃ v5, vv = some (.inl (bi v5)) ∧ (v5 = true → Cl E 2 M_X4_takeNumber [.inr 2] μ4 (fun vv μ6 => ∃ v7, vv = some (.inl v7) ∧ ∀ μ8 : Mem, μ8 = up μ6 (14 + 6) x2 v7 → Cl E 2 M_X4_passOver [.inr 2, .inl 44] μ8 (fun vv μ9 => ∃ v10, vv = some (.inl (bi v10)) ∧ (v10 = false → Q (some (.inl (bi false))) μ9) ∧ (v10 = true → Cl E 1 M_X4_isNumberIn [.inr 2, .inl 1, .inl 99] μ9 (fun vv μ11 => ∃ v12, vv = some (.inl (bi v12)) ∧ (v12 = true → Cl E 2 M_X4_takeNumber [.inr 2] μ11 (fun vv μ13 => ∃ v14, vv = some (.inl v14) ∧ ∀ μ15 : Mem, μ15 = up μ13 (14 + 7) x2 v14 → Cl E 2 M_X4_passOver [.inr 2, .inl 59] μ15 (fun vv μ16 => ∃ v17, vv = some (.inl (bi v17)) ∧ Q (some (.inl (bi v17))) μ16))) ∧ (v12 = false → Q (some (.inl (bi false))) μ11)))))) ∧ (v5 = false → Q (some (.inl (bi false))) μ4))) ∧ (x3 = 0 → Cl E 0 M_X4_hasFault [.inr 2, .inl 1] μ (fun vv μ18 => ∃ v19, vv = some (.inl (bi v19)) ∧ Q (some (.inl (bi v19))) μ18))) : Gg E 3 M_X4_readPerson 53 [some (.inr 2), some (.inr 14), some (.inl x2), some (.inl x3)] [] μ Q := by
  refine r_iloadn (q := 54) DM_X4_readPerson_53 rfl rfl ?_
  have i1 := h.1
  replace h := h.2
  refine r_ifne (q := 57) (t := 63) DM_X4_readPerson_54 rfl (by decide) ⟨i1, fun cc => ?_, fun cc => ?_⟩
  · replace h := h.1 cc
    refine r_aloadn (q := 64) DM_X4_readPerson_63 rfl rfl ?_
    refine r_getR (q := 67) (r := 14 + 4) DM_X4_readPerson_64 rfl fRX4_89 (co0 cK_14) rfl ?_
    refine r_iloadn (q := 68) DM_X4_readPerson_67 rfl rfl ?_
    refine r_iloadn (q := 69) DM_X4_readPerson_68 rfl rfl ?_
    refine v_iast (q := 70) DM_X4_readPerson_69 rfl (co4 cK_14) (by decide) ⟨h.1, fun μ2 e2 => ?_⟩
    have i3 := h.1
    replace h := h.2 μ2 e2
    refine r_aloadn (q := 71) DM_X4_readPerson_70 rfl rfl ?_
    refine r_iconst (q := 72) (n := 1) DM_X4_readPerson_71 rfl ?_
    refine r_bipush (q := 74) (n := 30) DM_X4_readPerson_72 rfl (by decide) ?_
    refine r_callVi [.inl 1, .inl 30] (q := 77) DM_X4_readPerson_74 rfl kM_X4_isNumberIn lRX4_44 sh_2 rfl rfl (by decide) (Nat.le_of_ble_eq_true rfl) rfl (Cl.imp h (fun vv μ4 h => ?_))
    obtain ⟨v5, hv, h⟩ := h
    refine ⟨_, hv, ?_⟩
    refine r_bbne (q := 80) (t := 82) DM_X4_readPerson_77 rfl (by decide) ⟨fun cc => ?_, fun cc => ?_⟩
    · replace h := h.1 cc
      refine r_aloadn (q := 83) DM_X4_readPerson_82 rfl rfl ?_
      refine r_getR (q := 86) (r := 14 + 6) DM_X4_readPerson_83 rfl fRX4_92 (co0 cK_14) rfl ?_
      refine r_iloadn (q := 87) DM_X4_readPerson_86 rfl rfl ?_
      refine r_aloadn (q := 88) DM_X4_readPerson_87 rfl rfl ?_
      refine r_callVi [] (q := 91) DM_X4_readPerson_88 rfl kM_X4_takeNumber lRX4_48 sh_2 rfl rfl (by decide) (Nat.le_of_ble_eq_true rfl) rfl (Cl.imp h (fun vv μ6 h => ?_))
      obtain ⟨v7, hv, h⟩ := h
      refine ⟨v7, hv, ?_⟩
      refine v_iast (q := 92) DM_X4_readPerson_91 rfl (co6 cK_14) (by decide) ⟨i3, fun μ8 e8 => ?_⟩
      replace h := h μ8 e8
      refine r_aloadn (q := 93) DM_X4_readPerson_92 rfl rfl ?_
      refine r_bipush (q := 95) (n := 44) DM_X4_readPerson_93 rfl (by decide) ?_
      refine r_callVi [.inl 44] (q := 98) DM_X4_readPerson_95 rfl kM_X4_passOver lRX4_40 sh_2 rfl rfl (by decide) (Nat.le_of_ble_eq_true rfl) rfl (Cl.imp h (fun vv μ9 h => ?_))
      obtain ⟨v10, hv, h⟩ := h
      refine ⟨_, hv, ?_⟩
      refine r_bbeq (q := 101) (t := 111) DM_X4_readPerson_98 rfl (by decide) ⟨fun cc => ?_, fun cc => ?_⟩
      · replace h := h.1 cc
        refine r_iconst (q := 112) (n := 0) DM_X4_readPerson_111 rfl ?_
        exact r_ret (v := some (.inl 0)) ⟨DM_X4_readPerson_112, Or.inr ⟨rfl, Or.inl rfl⟩⟩ h
      · replace h := h.2 cc
        refine r_aloadn (q := 102) DM_X4_readPerson_101 rfl rfl ?_
        refine r_iconst (q := 103) (n := 1) DM_X4_readPerson_102 rfl ?_
        refine r_bipush (q := 105) (n := 99) DM_X4_readPerson_103 rfl (by decide) ?_
        refine r_callVi [.inl 1, .inl 99] (q := 108) DM_X4_readPerson_105 rfl kM_X4_isNumberIn lRX4_44 sh_2 rfl rfl (by decide) (Nat.le_of_ble_eq_true rfl) rfl (Cl.imp h (fun vv μ11 h => ?_))
        obtain ⟨v12, hv, h⟩ := h
        refine ⟨_, hv, ?_⟩
        refine r_bbne (q := 111) (t := 113) DM_X4_readPerson_108 rfl (by decide) ⟨fun cc => ?_, fun cc => ?_⟩
        · replace h := h.1 cc
          refine r_aloadn (q := 114) DM_X4_readPerson_113 rfl rfl ?_
          refine r_getR (q := 117) (r := 14 + 7) DM_X4_readPerson_114 rfl fRX4_95 (co0 cK_14) rfl ?_
          refine r_iloadn (q := 118) DM_X4_readPerson_117 rfl rfl ?_
          refine r_aloadn (q := 119) DM_X4_readPerson_118 rfl rfl ?_
          refine r_callVi [] (q := 122) DM_X4_readPerson_119 rfl kM_X4_takeNumber lRX4_48 sh_2 rfl rfl (by decide) (Nat.le_of_ble_eq_true rfl) rfl (Cl.imp h (fun vv μ13 h => ?_))
          obtain ⟨v14, hv, h⟩ := h
          refine ⟨v14, hv, ?_⟩
          refine v_iast (q := 123) DM_X4_readPerson_122 rfl (co7 cK_14) (by decide) ⟨i3, fun μ15 e15 => ?_⟩
          replace h := h μ15 e15
          refine r_aloadn (q := 124) DM_X4_readPerson_123 rfl rfl ?_
          refine r_bipush (q := 126) (n := 59) DM_X4_readPerson_124 rfl (by decide) ?_
          refine r_callVi [.inl 59] (q := 129) DM_X4_readPerson_126 rfl kM_X4_passOver lRX4_40 sh_2 rfl rfl (by decide) (Nat.le_of_ble_eq_true rfl) rfl (Cl.imp h (fun vv μ16 h => ?_))
          obtain ⟨v17, hv, h⟩ := h
          refine ⟨_, hv, ?_⟩
          exact r_ret (v := some (.inl (bi v17))) ⟨DM_X4_readPerson_129, Or.inr ⟨rfl, bi_01 _⟩⟩ h
        · replace h := h.2 cc
          refine r_iconst (q := 112) (n := 0) DM_X4_readPerson_111 rfl ?_
          exact r_ret (v := some (.inl 0)) ⟨DM_X4_readPerson_112, Or.inr ⟨rfl, Or.inl rfl⟩⟩ h
    · replace h := h.2 cc
      refine r_iconst (q := 81) (n := 0) DM_X4_readPerson_80 rfl ?_
      exact r_ret (v := some (.inl 0)) ⟨DM_X4_readPerson_81, Or.inr ⟨rfl, Or.inl rfl⟩⟩ h
  · replace h := h.2 cc
    refine r_aloadn (q := 58) DM_X4_readPerson_57 rfl rfl ?_
    refine r_iconst (q := 59) (n := 1) DM_X4_readPerson_58 rfl ?_
    refine r_callVi [.inl 1] (q := 62) DM_X4_readPerson_59 rfl kM_X4_hasFault lRX4_65 sh_2 rfl rfl (by decide) (Nat.le_of_ble_eq_true rfl) rfl (Cl.imp h (fun vv μ18 h => ?_))
    obtain ⟨v19, hv, h⟩ := h
    refine ⟨_, hv, ?_⟩
    exact r_ret (v := some (.inl (bi v19))) ⟨DM_X4_readPerson_62, Or.inr ⟨rfl, bi_01 _⟩⟩ h
section P68
variable {E : Ex} {Q : Option Vl → Mem → Prop} {T : Int → Int} {n p kd : Int}
theorem rd_name (hT : tkOK T n) (hp : 0 ≤ p ∧ p < 6) : ∀ (r : Nat) (k a : Int) (μ : Mem), k + r = 4 → 0 ≤ k → C7 T n μ a → (0 ≤ a ∧ a ≤ n) →
    (∀ (k1 a1 : Int) (μ1 : Mem), C7 T n μ1 a1 → (a ≤ a1 ∧ a1 ≤ n) → (k ≤ k1 ∧ k1 ≤ 4) → c7R μ μ1 → (∀ j, j ≠ 2 → j ≠ 19 → μ1 j = μ j) → (∀ i, (i < p * 4 + k ∨ p * 4 + k1 ≤ i) → μ1 (14 + 5) i = μ (14 + 5) i) → (∀ i, k ≤ i → i < k1 → 0 ≤ μ1 (14 + 5) (p * 4 + i) ∧ μ1 (14 + 5) (p * 4 + i) ≤ 7) →
      (∀ (ν : Mem) (Q8 : Option Vl → Mem → Prop), W8 T n ν a → (∀ ν1 : Mem, W8 T n ν1 a1 → mdR ν ν1 → (∀ i, k ≤ i → i < k1 → ν1 90 (13 + 13 * p + (4 + i)) = μ1 (14 + 5) (p * 4 + i)) → (∀ i, (i < 13 + 13 * p + 4 + k ∨ 13 + 13 * p + 4 + k1 ≤ i) → ν1 90 i = ν 90 i) → Gg E 4 M_X8_readsPerson 99 [some (.inr 83), some (.inl kd), some (.inl (13 + 13 * p)), some (.inl k1), none, none] [] ν1 Q8) → Gg E 4 M_X8_readsPerson 60 [some (.inr 83), some (.inl kd), some (.inl (13 + 13 * p)), some (.inl k), none, none] [] ν Q8) →
      Gg E 3 M_X4_readPerson 53 [some (.inr 2), some (.inr 14), some (.inl p), some (.inl k1)] [] μ1 Q) →
    Gg E 3 M_X4_readPerson 21 [some (.inr 2), some (.inr 14), some (.inl p), some (.inl k)] [] μ Q := by
  intro r
  induction r with
  | zero =>
    intro k a μ hk k0 hC h0 hq
    have e4 : k = 4 := by omega
    subst e4
    refine s_X4_readPerson_21 ⟨by decide, fun _ => hq 4 a μ hC (by omega) (by decide) c7R.rf (fun _ _ _ => rfl) (fun _ _ => rfl) (fun i i0 i1 => absurd i1 (by omega)) (fun ν Q8 hW h8 => ?_), fun z => absurd (by decide) z⟩
    have go := h8 ν hW mdR.rf (fun i i0 i1 => absurd i1 (by omega)) (fun _ _ => rfl)
    by_cases hl : 97 ≤ tkT T n a ∧ tkT T n a < 105
    · exact s_X8_readsPerson_60 (name_yes hT hW hl ⟨_, rfl, fun z => absurd z (by decide), fun _ => ⟨by decide, fun _ => go, fun z => absurd (by decide) z⟩⟩)
    · exact s_X8_readsPerson_60 (name_no hT hW hl ⟨_, rfl, fun _ => go, fun z => absurd z (by decide)⟩)
  | succ r ih =>
    intro k a μ hk k0 hC h0 hq
    have hn := hT.1
    have na := tkN_rng (T := T) h0.1 h0.2
    refine s_X4_readPerson_21 ⟨by omega, fun z => absurd z (by omega), fun _ => k_X4_isLetter hT hC h0 ⟨_, rfl, fun z => ?_, fun z => k_X4_letterOfToken hC ⟨_, rfl, by omega, fun μ7 e7 => ?_⟩⟩⟩
    · have hl := of_decide_eq_false z
      refine hq k a μ hC (by omega) (by omega) c7R.rf (fun _ _ _ => rfl) (fun _ _ => rfl) (fun i i0 i1 => absurd i1 (by omega)) (fun ν Q8 hW h8 => ?_)
      have go := h8 ν hW mdR.rf (fun i i0 i1 => absurd i1 (by omega)) (fun _ _ => rfl)
      exact s_X8_readsPerson_60 (name_no hT hW hl ⟨_, rfl, fun _ => go, fun z => absurd z (by decide)⟩)
    · have hl := of_decide_eq_true z
      have k7 : ∀ j, j ≠ 19 → μ7 j = μ j := fun j hj => by rw [e7, up_ne hj]
      have c7 : C7 T n μ7 a := hC.off (k7 2 (by decide)) (k7 3 (by decide))
      have r7 : c7R μ μ7 := by rw [e7]; exact c7R.upj (j := 5) (by decide) (by omega)
      refine k_X4_step hT c7.pl.1 c7.pl.2 c7.nx (by omega) (fun μ8 c8 o8 => ⟨rfl, ?_⟩)
      have e19 : μ8 (14 + 5) = μ7 (14 + 5) := o8 _ (by decide)
      refine ih (k + 1) (tkN T n a) μ8 (by omega) (by omega) c8 (by omega) (fun k1 a1 μ1 c1 b1 hk1 r1 o1 x1 y1 f1 => ?_)
      have own : μ1 (14 + 5) (p * 4 + k) = tkT T n a - 97 := by rw [x1 _ (by omega), e19, e7, up_self]
      refine hq k1 a1 μ1 c1 (by omega) (by omega) ((r7.tr (c7R.tk o8)).tr r1) (fun j x y => by rw [o1 j x y, o8 j x, k7 j y]) (fun i hi => ?_) (fun i i0 i1 => ?_) (fun ν Q8 hW h8 => ?_)
      · rw [x1 i (by omega), e19, e7, up_off (Or.inr (by omega))]
      · by_cases e : i = k
        · subst e; rw [own]; omega
        · exact y1 i (by omega) i1
      · have e12 := hW.1.2.2.2.1.2.1 (by omega)
        refine s_X8_readsPerson_60 (name_yes hT hW hl ⟨_, rfl, fun z => absurd z (by decide), fun _ => ⟨by omega, fun z => absurd z (by omega), fun _ => ⟨by omega, fun μ4 e4 => ?_⟩⟩⟩)
        have W4 : W8 T n μ4 a := by rw [e4]; exact hW.up
        refine k_X8_advances hT W4.1.pl.1 W4.1.pl.2 W4.1.nx (by omega) (fun ν5 k5 a5 => ⟨rfl, ?_⟩)
        refine f1 ν5 Q8 (W4.av a5 k5) (fun ν6 W6 m6 d6 z6 => h8 ν6 W6 (mdR.tr (mdR.tr (by rw [e4]; exact md_up) a5.md) m6) (fun i i0 i1 => ?_) (fun i hi => ?_))
        · by_cases e : i = k
          · subst e
            rw [z6 _ (by omega), a5.1 90 (by decide), e4, own, e12, show 13 + 13 * p + (4 + i) = 13 + 13 * p + 4 + i by omega, up_self]
          · exact d6 i (by omega) i1
        · rw [z6 i (by omega), a5.1 90 (by decide), e4, up_off (Or.inr (by omega))]
end P68

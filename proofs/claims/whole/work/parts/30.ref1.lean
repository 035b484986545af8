/-! The reference: leaves. -/
section C30
variable {E : Ex} {μ : Mem} {Q : Option Vl → Mem → Prop} {k : Nat} {a b x p l n i v s : Int}
set_option maxRecDepth 20000 in
theorem s_X8_in {E : Ex} {μ : Mem} {Q : Option Vl → Mem → Prop} {x0 x1 x2 : Int}  (h : inR x0 ∧ inR x1 ∧ (x0 < x1 → Q (some (.inl (bi false))) μ) ∧ (¬ x0 < x1 → inR x2 ∧ (x0 > x2 → Q (some (.inl (bi false))) μ) ∧ (¬ x0 > x2 → Q (some (.inl (bi true))) μ))) : Cl E 0 M_X8_in [.inl x0, .inl x1, .inl x2] μ Q := by
  show Gg E 0 M_X8_in 0 [some (.inl x0), some (.inl x1), some (.inl x2)] [] μ Q
  refine r_iloadn (q := 1) DM_X8_in_0 rfl rfl ?_
  refine r_iloadn (q := 2) DM_X8_in_1 rfl rfl ?_
  have i1 := h.1
  replace h := h.2
  have i2 := h.1
  replace h := h.2
  refine r_iclt (q := 5) (t := 14) DM_X8_in_2 rfl (by decide) ⟨⟨i1, i2⟩, fun cc => ?_, fun cc => ?_⟩
  · replace h := h.1 cc
    refine r_iconst (q := 15) (n := 0) DM_X8_in_14 rfl ?_
    exact r_ret (v := some (.inl 0)) ⟨DM_X8_in_15, Or.inr ⟨rfl, Or.inl rfl⟩⟩ h
  · replace h := h.2 cc
    refine r_iloadn (q := 6) DM_X8_in_5 rfl rfl ?_
    refine r_iloadn (q := 7) DM_X8_in_6 rfl rfl ?_
    have i3 := h.1
    replace h := h.2
    refine r_icgt (q := 10) (t := 14) DM_X8_in_7 rfl (by decide) ⟨⟨i1, i3⟩, fun cc => ?_, fun cc => ?_⟩
    · replace h := h.1 cc
      refine r_iconst (q := 15) (n := 0) DM_X8_in_14 rfl ?_
      exact r_ret (v := some (.inl 0)) ⟨DM_X8_in_15, Or.inr ⟨rfl, Or.inl rfl⟩⟩ h
    · replace h := h.2 cc
      refine r_iconst (q := 11) (n := 1) DM_X8_in_10 rfl ?_
      refine r_goto (q := 15) DM_X8_in_11 (by decide) ?_
      exact r_ret (v := some (.inl 1)) ⟨DM_X8_in_15, Or.inr ⟨rfl, Or.inr rfl⟩⟩ h
theorem k_X8_in (ia : inR a) (ib : inR b) (ix : inR x) (h : Q (some (.inl (bi (decide (b ≤ a ∧ a ≤ x))))) μ) : Cl E 0 M_X8_in [.inl a, .inl b, .inl x] μ Q := by
  refine s_X8_in ⟨ia, ib, fun c => ?_, fun c => ⟨ix, fun c2 => ?_, fun c2 => ?_⟩⟩
  · rwa [decide_eq_false (by omega)] at h
  · rwa [decide_eq_false (by omega)] at h
  · rwa [decide_eq_true (by omega)] at h
set_option maxRecDepth 20000 in
theorem s_X8_has {E : Ex} {μ : Mem} {Q : Option Vl → Mem → Prop} {x0 x1 : Int}  (h : inR (jand (jshr x0 x1) 1) ∧ ((jand (jshr x0 x1) 1) ≠ 1 → Q (some (.inl (bi false))) μ) ∧ ((jand (jshr x0 x1) 1) = 1 → Q (some (.inl (bi true))) μ)) : Cl E 0 M_X8_has [.inl x0, .inl x1] μ Q := by
  show Gg E 0 M_X8_has 0 [some (.inl x0), some (.inl x1)] [] μ Q
  refine r_iloadn (q := 1) DM_X8_has_0 rfl rfl ?_
  refine r_iloadn (q := 2) DM_X8_has_1 rfl rfl ?_
  refine r_ishr (q := 3) DM_X8_has_2 rfl ?_
  refine r_iconst (q := 4) (n := 1) DM_X8_has_3 rfl ?_
  refine r_iand (q := 5) DM_X8_has_4 rfl ?_
  refine r_iconst (q := 6) (n := 1) DM_X8_has_5 rfl ?_
  have i1 := h.1
  replace h := h.2
  refine r_icne (q := 9) (t := 13) DM_X8_has_6 rfl (by decide) ⟨⟨i1, (by decide)⟩, fun cc => ?_, fun cc => ?_⟩
  · replace h := h.1 cc
    refine r_iconst (q := 14) (n := 0) DM_X8_has_13 rfl ?_
    exact r_ret (v := some (.inl 0)) ⟨DM_X8_has_14, Or.inr ⟨rfl, Or.inl rfl⟩⟩ h
  · replace h := h.2 cc
    refine r_iconst (q := 10) (n := 1) DM_X8_has_9 rfl ?_
    refine r_goto (q := 14) DM_X8_has_10 (by decide) ?_
    exact r_ret (v := some (.inl 1)) ⟨DM_X8_has_14, Or.inr ⟨rfl, Or.inr rfl⟩⟩ h
set_option maxRecDepth 20000 in
theorem s_X8_found {E : Ex} {μ : Mem} {Q : Option Vl → Mem → Prop} {x1 : Int}  (h : ∀ μ1 : Mem, μ1 = up μ 83 4 x1 → Q (some (.inl ((-1000010) - x1))) μ1) : Cl E 0 M_X8_found [.inr 83, .inl x1] μ Q := by
  show Gg E 0 M_X8_found 0 [some (.inr 83), some (.inl x1)] [] μ Q
  refine r_aloadn (q := 1) DM_X8_found_0 rfl rfl ?_
  refine r_iloadn (q := 2) DM_X8_found_1 rfl rfl ?_
  refine v_put (q := 5) (ji := 4) DM_X8_found_2 rfl pfRX8_60 sh_83 rfl rfl (Or.inl rfl) (fun μ1 e1 => ?_)
  replace h := h μ1 e1
  refine r_ldc (q := 7) (n := (-1000010)) DM_X8_found_5 rfl nRX8_64 ?_
  refine r_iloadn (q := 8) DM_X8_found_7 rfl rfl ?_
  refine r_isub (q := 9) DM_X8_found_8 rfl ?_
  exact r_ret (v := some (.inl ((-1000010) - x1))) ⟨DM_X8_found_9, Or.inl rfl⟩ h
theorem k_X8_found {f : Int} (h : ∀ μ1 : Mem, μ1 = up μ 83 4 f → Q (some (.inl (-1000010 - f))) μ1) : Cl E 0 M_X8_found [.inr 83, .inl f] μ Q := s_X8_found h
set_option maxRecDepth 20000 in
theorem s_X8_well {E : Ex} {μ : Mem} {Q : Option Vl → Mem → Prop} {x1 : Int}  (h : ∀ μ1 : Mem, μ1 = up μ 83 4 0 → Q (some (.inl x1)) μ1) : Cl E 0 M_X8_well [.inr 83, .inl x1] μ Q := by
  show Gg E 0 M_X8_well 0 [some (.inr 83), some (.inl x1)] [] μ Q
  refine r_aloadn (q := 1) DM_X8_well_0 rfl rfl ?_
  refine r_iconst (q := 2) (n := 0) DM_X8_well_1 rfl ?_
  refine v_put (q := 5) (ji := 4) DM_X8_well_2 rfl pfRX8_60 sh_83 rfl rfl (Or.inl rfl) (fun μ1 e1 => ?_)
  replace h := h μ1 e1
  refine r_iloadn (q := 6) DM_X8_well_5 rfl rfl ?_
  exact r_ret (v := some (.inl x1)) ⟨DM_X8_well_6, Or.inl rfl⟩ h
theorem k_X8_well {f : Int} (h : ∀ μ1 : Mem, μ1 = up μ 83 4 0 → Q (some (.inl f)) μ1) : Cl E 0 M_X8_well [.inr 83, .inl f] μ Q := s_X8_well h
set_option maxRecDepth 20000 in
theorem s_X8_isRow {E : Ex} {μ : Mem} {Q : Option Vl → Mem → Prop} {x0 : Int}  (h : inR x0 ∧ Q (some (.inl (bi (decide (0 ≤ x0 ∧ x0 ≤ 7))))) μ) : Cl E 1 M_X8_isRow [.inl x0] μ Q := by
  show Gg E 1 M_X8_isRow 0 [some (.inl x0)] [] μ Q
  refine r_iloadn (q := 1) DM_X8_isRow_0 rfl rfl ?_
  refine r_iconst (q := 2) (n := 0) DM_X8_isRow_1 rfl ?_
  refine r_bipush (q := 4) (n := 7) DM_X8_isRow_2 rfl (by decide) ?_
  have i1 := h.1
  replace h := h.2
  refine r_callSi [.inl x0, .inl 0, .inl 7] (q := 7) DM_X8_isRow_4 rfl kM_X8_in lRX8_65 rfl (by decide) (Nat.le_of_ble_eq_true rfl) rfl (k_X8_in i1 (by decide) (by decide) ⟨_, rfl, ?_⟩)
  exact r_ret (v := some (.inl (bi (decide (0 ≤ x0 ∧ x0 ≤ 7))))) ⟨DM_X8_isRow_7, Or.inr ⟨rfl, bi_01 _⟩⟩ h
theorem k_X8_isRow (ia : inR a) (h : Q (some (.inl (bi (decide (0 ≤ a ∧ a ≤ 7))))) μ) : Cl E 1 M_X8_isRow [.inl a] μ Q := s_X8_isRow ⟨ia, h⟩
set_option maxRecDepth 20000 in
theorem s_X8_isMissing {E : Ex} {μ : Mem} {Q : Option Vl → Mem → Prop} {x1 : Int}  (h : (0 ≤ x1 ∧ x1 < 8) ∧ inR (μ 84 x1) ∧ ((μ 84 x1) ≠ (-1000000) → Q (some (.inl (bi false))) μ) ∧ ((μ 84 x1) = (-1000000) → Q (some (.inl (bi true))) μ)) : Cl E 0 M_X8_isMissing [.inr 83, .inl x1] μ Q := by
  show Gg E 0 M_X8_isMissing 0 [some (.inr 83), some (.inl x1)] [] μ Q
  refine r_aloadn (q := 1) DM_X8_isMissing_0 rfl rfl ?_
  refine r_getR (q := 4) (r := 84) DM_X8_isMissing_1 rfl fRX8_7 sh_83 rfl ?_
  refine r_iloadn (q := 5) DM_X8_isMissing_4 rfl rfl ?_
  refine r_iald (q := 6) DM_X8_isMissing_5 rfl sh_84 (by decide) ⟨h.1, ?_⟩
  have i1 := h.1
  replace h := h.2
  refine r_ldc (q := 8) (n := (-1000000)) DM_X8_isMissing_6 rfl nRX8_59 ?_
  have i2 := h.1
  replace h := h.2
  refine r_icne (q := 11) (t := 15) DM_X8_isMissing_8 rfl (by decide) ⟨⟨i2, (by decide)⟩, fun cc => ?_, fun cc => ?_⟩
  · replace h := h.1 cc
    refine r_iconst (q := 16) (n := 0) DM_X8_isMissing_15 rfl ?_
    exact r_ret (v := some (.inl 0)) ⟨DM_X8_isMissing_16, Or.inr ⟨rfl, Or.inl rfl⟩⟩ h
  · replace h := h.2 cc
    refine r_iconst (q := 12) (n := 1) DM_X8_isMissing_11 rfl ?_
    refine r_goto (q := 16) DM_X8_isMissing_12 (by decide) ?_
    exact r_ret (v := some (.inl 1)) ⟨DM_X8_isMissing_16, Or.inr ⟨rfl, Or.inr rfl⟩⟩ h
theorem k_X8_isMissing (ia : 0 ≤ a ∧ a < 8) (il : inR (μ 84 a)) (h : Q (some (.inl (bi (decide (μ 84 a = -1000000))))) μ) : Cl E 0 M_X8_isMissing [.inr 83, .inl a] μ Q := by
  refine s_X8_isMissing ⟨ia, il, fun c => ?_, fun c => ?_⟩
  · rwa [decide_eq_false c] at h
  · rwa [decide_eq_true c] at h
set_option maxRecDepth 20000 in
theorem s_X8_cut {E : Ex} {μ : Mem} {Q : Option Vl → Mem → Prop} {x0 x1 : Int}  (h : inR x0 ∧ (x0 ≠ 0 → (x0 ≠ 1 → Q (some (.inl x1)) μ) ∧ (x0 = 1 → Q (some (.inl (jshr (jshl x1 16) 16))) μ)) ∧ (x0 = 0 → Q (some (.inl (jshr (jshl x1 24) 24))) μ)) : Cl E 0 M_X8_cut [.inl x0, .inl x1] μ Q := by
  show Gg E 0 M_X8_cut 0 [some (.inl x0), some (.inl x1)] [] μ Q
  refine r_iloadn (q := 1) DM_X8_cut_0 rfl rfl ?_
  have i1 := h.1
  replace h := h.2
  refine r_ifne (q := 4) (t := 14) DM_X8_cut_1 rfl (by decide) ⟨i1, fun cc => ?_, fun cc => ?_⟩
  · replace h := h.1 cc
    refine r_iloadn (q := 15) DM_X8_cut_14 rfl rfl ?_
    refine r_iconst (q := 16) (n := 1) DM_X8_cut_15 rfl ?_
    refine r_icne (q := 19) (t := 29) DM_X8_cut_16 rfl (by decide) ⟨⟨i1, (by decide)⟩, fun cc => ?_, fun cc => ?_⟩
    · replace h := h.1 cc
      refine r_iloadn (q := 30) DM_X8_cut_29 rfl rfl ?_
      exact r_ret (v := some (.inl x1)) ⟨DM_X8_cut_30, Or.inl rfl⟩ h
    · replace h := h.2 cc
      refine r_iloadn (q := 20) DM_X8_cut_19 rfl rfl ?_
      refine r_bipush (q := 22) (n := 16) DM_X8_cut_20 rfl (by decide) ?_
      refine r_ishl (q := 23) DM_X8_cut_22 rfl ?_
      refine r_bipush (q := 25) (n := 16) DM_X8_cut_23 rfl (by decide) ?_
      refine r_ishr (q := 26) DM_X8_cut_25 rfl ?_
      refine r_goto (q := 30) DM_X8_cut_26 (by decide) ?_
      exact r_ret (v := some (.inl (jshr (jshl x1 16) 16))) ⟨DM_X8_cut_30, Or.inl rfl⟩ h
  · replace h := h.2 cc
    refine r_iloadn (q := 5) DM_X8_cut_4 rfl rfl ?_
    refine r_bipush (q := 7) (n := 24) DM_X8_cut_5 rfl (by decide) ?_
    refine r_ishl (q := 8) DM_X8_cut_7 rfl ?_
    refine r_bipush (q := 10) (n := 24) DM_X8_cut_8 rfl (by decide) ?_
    refine r_ishr (q := 11) DM_X8_cut_10 rfl ?_
    refine r_goto (q := 30) DM_X8_cut_11 (by decide) ?_
    exact r_ret (v := some (.inl (jshr (jshl x1 24) 24))) ⟨DM_X8_cut_30, Or.inl rfl⟩ h
set_option maxRecDepth 20000 in
theorem s_X8_isPart {E : Ex} {μ : Mem} {Q : Option Vl → Mem → Prop} {x1 x2 x3 : Int}  (h : inR x2 ∧ (x2 < 0 → Q (some (.inl (bi false))) μ) ∧ (¬ x2 < 0 → inR x3 ∧ (x3 < 0 → Q (some (.inl (bi false))) μ) ∧ (¬ x3 < 0 → (0 ≤ x1 ∧ x1 < 8) ∧ inR (μ 85 x1) ∧ (x2 > (μ 85 x1) → Q (some (.inl (bi false))) μ) ∧ (¬ x2 > (μ 85 x1) → inR ((μ 85 x1) - x2) ∧ (x3 > ((μ 85 x1) - x2) → Q (some (.inl (bi false))) μ) ∧ (¬ x3 > ((μ 85 x1) - x2) → Q (some (.inl (bi true))) μ))))) : Cl E 0 M_X8_isPart [.inr 83, .inl x1, .inl x2, .inl x3] μ Q := by
  show Gg E 0 M_X8_isPart 0 [some (.inr 83), some (.inl x1), some (.inl x2), some (.inl x3)] [] μ Q
  refine r_iloadn (q := 1) DM_X8_isPart_0 rfl rfl ?_
  have i1 := h.1
  replace h := h.2
  refine r_iflt (q := 4) (t := 34) DM_X8_isPart_1 rfl (by decide) ⟨i1, fun cc => ?_, fun cc => ?_⟩
  · replace h := h.1 cc
    refine r_iconst (q := 35) (n := 0) DM_X8_isPart_34 rfl ?_
    exact r_ret (v := some (.inl 0)) ⟨DM_X8_isPart_35, Or.inr ⟨rfl, Or.inl rfl⟩⟩ h
  · replace h := h.2 cc
    refine r_iloadn (q := 5) DM_X8_isPart_4 rfl rfl ?_
    have i2 := h.1
    replace h := h.2
    refine r_iflt (q := 8) (t := 34) DM_X8_isPart_5 rfl (by decide) ⟨i2, fun cc => ?_, fun cc => ?_⟩
    · replace h := h.1 cc
      refine r_iconst (q := 35) (n := 0) DM_X8_isPart_34 rfl ?_
      exact r_ret (v := some (.inl 0)) ⟨DM_X8_isPart_35, Or.inr ⟨rfl, Or.inl rfl⟩⟩ h
    · replace h := h.2 cc
      refine r_iloadn (q := 9) DM_X8_isPart_8 rfl rfl ?_
      refine r_aloadn (q := 10) DM_X8_isPart_9 rfl rfl ?_
      refine r_getR (q := 13) (r := 85) DM_X8_isPart_10 rfl fRX8_13 sh_83 rfl ?_
      refine r_iloadn (q := 14) DM_X8_isPart_13 rfl rfl ?_
      refine r_iald (q := 15) DM_X8_isPart_14 rfl sh_85 (by decide) ⟨h.1, ?_⟩
      have i3 := h.1
      replace h := h.2
      have i4 := h.1
      replace h := h.2
      refine r_icgt (q := 18) (t := 34) DM_X8_isPart_15 rfl (by decide) ⟨⟨i1, i4⟩, fun cc => ?_, fun cc => ?_⟩
      · replace h := h.1 cc
        refine r_iconst (q := 35) (n := 0) DM_X8_isPart_34 rfl ?_
        exact r_ret (v := some (.inl 0)) ⟨DM_X8_isPart_35, Or.inr ⟨rfl, Or.inl rfl⟩⟩ h
      · replace h := h.2 cc
        refine r_iloadn (q := 19) DM_X8_isPart_18 rfl rfl ?_
        refine r_aloadn (q := 20) DM_X8_isPart_19 rfl rfl ?_
        refine r_getR (q := 23) (r := 85) DM_X8_isPart_20 rfl fRX8_13 sh_83 rfl ?_
        refine r_iloadn (q := 24) DM_X8_isPart_23 rfl rfl ?_
        refine r_iald (q := 25) DM_X8_isPart_24 rfl sh_85 (by decide) ⟨i3, ?_⟩
        refine r_iloadn (q := 26) DM_X8_isPart_25 rfl rfl ?_
        refine r_isub (q := 27) DM_X8_isPart_26 rfl ?_
        have i5 := h.1
        replace h := h.2
        refine r_icgt (q := 30) (t := 34) DM_X8_isPart_27 rfl (by decide) ⟨⟨i2, i5⟩, fun cc => ?_, fun cc => ?_⟩
        · replace h := h.1 cc
          refine r_iconst (q := 35) (n := 0) DM_X8_isPart_34 rfl ?_
          exact r_ret (v := some (.inl 0)) ⟨DM_X8_isPart_35, Or.inr ⟨rfl, Or.inl rfl⟩⟩ h
        · replace h := h.2 cc
          refine r_iconst (q := 31) (n := 1) DM_X8_isPart_30 rfl ?_
          refine r_goto (q := 35) DM_X8_isPart_31 (by decide) ?_
          exact r_ret (v := some (.inl 1)) ⟨DM_X8_isPart_35, Or.inr ⟨rfl, Or.inr rfl⟩⟩ h
set_option maxRecDepth 20000 in
theorem s_X8_of {E : Ex} {μ : Mem} {Q : Option Vl → Mem → Prop} {x1 x2 : Int} {k : Nat} (hk : shp k = (0, 91, [])) (h : (0 ≤ ((13 + (13 * x1)) + x2) ∧ ((13 + (13 * x1)) + x2) < 91) ∧ Q (some (.inl (μ k ((13 + (13 * x1)) + x2)))) μ) : Cl E 0 M_X8_of [.inr k, .inl x1, .inl x2] μ Q := by
  show Gg E 0 M_X8_of 0 [some (.inr k), some (.inl x1), some (.inl x2)] [] μ Q
  refine r_aloadn (q := 1) DM_X8_of_0 rfl rfl ?_
  refine r_bipush (q := 3) (n := 13) DM_X8_of_1 rfl (by decide) ?_
  refine r_bipush (q := 5) (n := 13) DM_X8_of_3 rfl (by decide) ?_
  refine r_iloadn (q := 6) DM_X8_of_5 rfl rfl ?_
  refine r_imul (q := 7) DM_X8_of_6 rfl ?_
  refine r_iadd (q := 8) DM_X8_of_7 rfl ?_
  refine r_iloadn (q := 9) DM_X8_of_8 rfl rfl ?_
  refine r_iadd (q := 10) DM_X8_of_9 rfl ?_
  refine r_iald (q := 11) DM_X8_of_10 rfl hk (by decide) ⟨h.1, ?_⟩
  have i1 := h.1
  replace h := h.2
  exact r_ret (v := some (.inl (μ k ((13 + (13 * x1)) + x2)))) ⟨DM_X8_of_11, Or.inl rfl⟩ h
theorem k_X8_of (hk : shp k = (0, 91, [])) (hb : 0 ≤ 13 + 13 * p + i ∧ 13 + 13 * p + i < 91) (h : Q (some (.inl (μ k (13 + 13 * p + i)))) μ) : Cl E 0 M_X8_of [.inr k, .inl p, .inl i] μ Q := s_X8_of hk ⟨hb, h⟩
set_option maxRecDepth 20000 in
theorem s_X8_isCourt {E : Ex} {μ : Mem} {Q : Option Vl → Mem → Prop}  (h : inR (μ 89 0) ∧ ((μ 89 0) ≤ 0 → Q (some (.inl (bi false))) μ) ∧ (¬ (μ 89 0) ≤ 0 → Q (some (.inl (bi true))) μ)) : Cl E 0 M_X8_isCourt [.inr 83] μ Q := by
  show Gg E 0 M_X8_isCourt 0 [some (.inr 83)] [] μ Q
  refine r_aloadn (q := 1) DM_X8_isCourt_0 rfl rfl ?_
  refine r_getR (q := 4) (r := 89) DM_X8_isCourt_1 rfl fRX8_25 sh_83 rfl ?_
  refine r_iconst (q := 5) (n := 0) DM_X8_isCourt_4 rfl ?_
  refine r_iald (q := 6) DM_X8_isCourt_5 rfl sh_89 (by decide) ⟨by decide, ?_⟩
  have i1 := h.1
  replace h := h.2
  refine r_ifle (q := 9) (t := 13) DM_X8_isCourt_6 rfl (by decide) ⟨i1, fun cc => ?_, fun cc => ?_⟩
  · replace h := h.1 cc
    refine r_iconst (q := 14) (n := 0) DM_X8_isCourt_13 rfl ?_
    exact r_ret (v := some (.inl 0)) ⟨DM_X8_isCourt_14, Or.inr ⟨rfl, Or.inl rfl⟩⟩ h
  · replace h := h.2 cc
    refine r_iconst (q := 10) (n := 1) DM_X8_isCourt_9 rfl ?_
    refine r_goto (q := 14) DM_X8_isCourt_10 (by decide) ?_
    exact r_ret (v := some (.inl 1)) ⟨DM_X8_isCourt_14, Or.inr ⟨rfl, Or.inr rfl⟩⟩ h
theorem k_X8_isCourt (ia : inR (μ 89 0)) (h : Q (some (.inl (bi (decide (0 < μ 89 0))))) μ) : Cl E 0 M_X8_isCourt [.inr 83] μ Q := by
  refine s_X8_isCourt ⟨ia, fun c => ?_, fun c => ?_⟩
  · rwa [decide_eq_false (by omega)] at h
  · rwa [decide_eq_true (by omega)] at h
set_option maxRecDepth 20000 in
theorem s_X8_isPerson {E : Ex} {μ : Mem} {Q : Option Vl → Mem → Prop} {x1 : Int}  (h : inR x1 ∧ inR ((μ 89 2) - 1) ∧ Q (some (.inl (bi (decide (0 ≤ x1 ∧ x1 ≤ ((μ 89 2) - 1)))))) μ) : Cl E 1 M_X8_isPerson [.inr 83, .inl x1] μ Q := by
  show Gg E 1 M_X8_isPerson 0 [some (.inr 83), some (.inl x1)] [] μ Q
  refine r_iloadn (q := 1) DM_X8_isPerson_0 rfl rfl ?_
  refine r_iconst (q := 2) (n := 0) DM_X8_isPerson_1 rfl ?_
  refine r_aloadn (q := 3) DM_X8_isPerson_2 rfl rfl ?_
  refine r_getR (q := 6) (r := 89) DM_X8_isPerson_3 rfl fRX8_25 sh_83 rfl ?_
  refine r_iconst (q := 7) (n := 2) DM_X8_isPerson_6 rfl ?_
  refine r_iald (q := 8) DM_X8_isPerson_7 rfl sh_89 (by decide) ⟨by decide, ?_⟩
  refine r_iconst (q := 9) (n := 1) DM_X8_isPerson_8 rfl ?_
  refine r_isub (q := 10) DM_X8_isPerson_9 rfl ?_
  have i1 := h.1
  replace h := h.2
  have i2 := h.1
  replace h := h.2
  refine r_callSi [.inl x1, .inl 0, .inl ((μ 89 2) - 1)] (q := 13) DM_X8_isPerson_10 rfl kM_X8_in lRX8_65 rfl (by decide) (Nat.le_of_ble_eq_true rfl) rfl (k_X8_in i1 (by decide) i2 ⟨_, rfl, ?_⟩)
  exact r_ret (v := some (.inl (bi (decide (0 ≤ x1 ∧ x1 ≤ ((μ 89 2) - 1)))))) ⟨DM_X8_isPerson_13, Or.inr ⟨rfl, bi_01 _⟩⟩ h
theorem k_X8_isPerson (ip : inR p) (ia : inR (μ 89 2 - 1)) (h : Q (some (.inl (bi (decide (0 ≤ p ∧ p ≤ μ 89 2 - 1))))) μ) : Cl E 1 M_X8_isPerson [.inr 83, .inl p] μ Q := s_X8_isPerson ⟨ip, ia, h⟩
set_option maxRecDepth 20000 in
theorem s_X8_isPlaceOf {E : Ex} {μ : Mem} {Q : Option Vl → Mem → Prop} {x1 x2 : Int}  (h : inR x1 ∧ inR (μ 89 2 - 1) ∧ (¬ (0 ≤ x1 ∧ x1 ≤ μ 89 2 - 1) → Q (some (.inl (bi false))) μ) ∧ ((0 ≤ x1 ∧ x1 ≤ μ 89 2 - 1) → (0 ≤ 13 + 13 * x1 + 3 ∧ 13 + 13 * x1 + 3 < 91) ∧ inR x2 ∧ inR ((μ 89 (13 + 13 * x1 + 3)) - 1) ∧ (¬ (0 ≤ x2 ∧ x2 ≤ ((μ 89 (13 + 13 * x1 + 3)) - 1)) → Q (some (.inl (bi false))) μ) ∧ ((0 ≤ x2 ∧ x2 ≤ ((μ 89 (13 + 13 * x1 + 3)) - 1)) → Q (some (.inl (bi true))) μ))) : Cl E 2 M_X8_isPlaceOf [.inr 83, .inl x1, .inl x2] μ Q := by
  show Gg E 2 M_X8_isPlaceOf 0 [some (.inr 83), some (.inl x1), some (.inl x2)] [] μ Q
  refine r_aloadn (q := 1) DM_X8_isPlaceOf_0 rfl rfl ?_
  refine r_iloadn (q := 2) DM_X8_isPlaceOf_1 rfl rfl ?_
  have i1 := h.1
  replace h := h.2
  have i2 := h.1
  replace h := h.2
  refine r_callVi [.inl x1] (q := 5) DM_X8_isPlaceOf_2 rfl kM_X8_isPerson lRX8_210 sh_83 rfl rfl (by decide) (Nat.le_of_ble_eq_true rfl) rfl (k_X8_isPerson i1 i2 ⟨_, rfl, ?_⟩)
  refine r_bieq (q := 8) (t := 31) DM_X8_isPlaceOf_5 rfl (by decide) ⟨fun cc => ?_, fun cc => ?_⟩
  · replace h := h.1 cc
    refine r_iconst (q := 32) (n := 0) DM_X8_isPlaceOf_31 rfl ?_
    exact r_ret (v := some (.inl 0)) ⟨DM_X8_isPlaceOf_32, Or.inr ⟨rfl, Or.inl rfl⟩⟩ h
  · replace h := h.2 cc
    refine r_iloadn (q := 9) DM_X8_isPlaceOf_8 rfl rfl ?_
    refine r_iconst (q := 10) (n := 0) DM_X8_isPlaceOf_9 rfl ?_
    refine r_aloadn (q := 11) DM_X8_isPlaceOf_10 rfl rfl ?_
    refine r_getR (q := 14) (r := 89) DM_X8_isPlaceOf_11 rfl fRX8_25 sh_83 rfl ?_
    refine r_iloadn (q := 15) DM_X8_isPlaceOf_14 rfl rfl ?_
    refine r_iconst (q := 16) (n := 3) DM_X8_isPlaceOf_15 rfl ?_
    have i3 := h.1
    replace h := h.2
    refine r_callSi [.inr 89, .inl x1, .inl 3] (q := 19) DM_X8_isPlaceOf_16 rfl kM_X8_of lRX8_158 rfl (by decide) (Nat.le_of_ble_eq_true rfl) rfl (k_X8_of sh_89 i3 ⟨_, rfl, ?_⟩)
    refine r_iconst (q := 20) (n := 1) DM_X8_isPlaceOf_19 rfl ?_
    refine r_isub (q := 21) DM_X8_isPlaceOf_20 rfl ?_
    have i4 := h.1
    replace h := h.2
    have i5 := h.1
    replace h := h.2
    refine r_callSi [.inl x2, .inl 0, .inl ((μ 89 (13 + 13 * x1 + 3)) - 1)] (q := 24) DM_X8_isPlaceOf_21 rfl kM_X8_in lRX8_65 rfl (by decide) (Nat.le_of_ble_eq_true rfl) rfl (k_X8_in i4 (by decide) i5 ⟨_, rfl, ?_⟩)
    refine r_bieq (q := 27) (t := 31) DM_X8_isPlaceOf_24 rfl (by decide) ⟨fun cc => ?_, fun cc => ?_⟩
    · replace h := h.1 cc
      refine r_iconst (q := 32) (n := 0) DM_X8_isPlaceOf_31 rfl ?_
      exact r_ret (v := some (.inl 0)) ⟨DM_X8_isPlaceOf_32, Or.inr ⟨rfl, Or.inl rfl⟩⟩ h
    · replace h := h.2 cc
      refine r_iconst (q := 28) (n := 1) DM_X8_isPlaceOf_27 rfl ?_
      refine r_goto (q := 32) DM_X8_isPlaceOf_28 (by decide) ?_
      exact r_ret (v := some (.inl 1)) ⟨DM_X8_isPlaceOf_32, Or.inr ⟨rfl, Or.inr rfl⟩⟩ h
set_option maxRecDepth 20000 in
theorem s_X8_waits {E : Ex} {μ : Mem} {Q : Option Vl → Mem → Prop} {x1 : Int} {k : Nat} (hk : shp k = (0, 91, [])) (h : (0 ≤ 13 + 13 * x1 + 8 ∧ 13 + 13 * x1 + 8 < 91) ∧ inR (μ k (13 + 13 * x1 + 8)) ∧ ((μ k (13 + 13 * x1 + 8)) ≠ 0 → Q (some (.inl (bi false))) μ) ∧ ((μ k (13 + 13 * x1 + 8)) = 0 → Q (some (.inl (bi true))) μ)) : Cl E 1 M_X8_waits [.inr k, .inl x1] μ Q := by
  show Gg E 1 M_X8_waits 0 [some (.inr k), some (.inl x1)] [] μ Q
  refine r_aloadn (q := 1) DM_X8_waits_0 rfl rfl ?_
  refine r_iloadn (q := 2) DM_X8_waits_1 rfl rfl ?_
  refine r_bipush (q := 4) (n := 8) DM_X8_waits_2 rfl (by decide) ?_
  have i1 := h.1
  replace h := h.2
  refine r_callSi [.inr k, .inl x1, .inl 8] (q := 7) DM_X8_waits_4 rfl kM_X8_of lRX8_158 rfl (by decide) (Nat.le_of_ble_eq_true rfl) rfl (k_X8_of hk i1 ⟨_, rfl, ?_⟩)
  have i2 := h.1
  replace h := h.2
  refine r_ifne (q := 10) (t := 14) DM_X8_waits_7 rfl (by decide) ⟨i2, fun cc => ?_, fun cc => ?_⟩
  · replace h := h.1 cc
    refine r_iconst (q := 15) (n := 0) DM_X8_waits_14 rfl ?_
    exact r_ret (v := some (.inl 0)) ⟨DM_X8_waits_15, Or.inr ⟨rfl, Or.inl rfl⟩⟩ h
  · replace h := h.2 cc
    refine r_iconst (q := 11) (n := 1) DM_X8_waits_10 rfl ?_
    refine r_goto (q := 15) DM_X8_waits_11 (by decide) ?_
    exact r_ret (v := some (.inl 1)) ⟨DM_X8_waits_15, Or.inr ⟨rfl, Or.inr rfl⟩⟩ h
set_option maxRecDepth 20000 in
theorem s_X8_classOf {E : Ex} {μ : Mem} {Q : Option Vl → Mem → Prop} {x1 : Int} {k : Nat} (hk : shp k = (0, 91, [])) (h : (0 ≤ 13 + 13 * x1 + 0 ∧ 13 + 13 * x1 + 0 < 91) ∧ inR (μ k (13 + 13 * x1 + 0)) ∧ ((μ k (13 + 13 * x1 + 0)) ≠ 5 → ((μ k (13 + 13 * x1 + 0)) ≠ 4 → Q (some (.inl 1)) μ) ∧ ((μ k (13 + 13 * x1 + 0)) = 4 → Q (some (.inl 2)) μ)) ∧ ((μ k (13 + 13 * x1 + 0)) = 5 → Q (some (.inl 0)) μ)) : Cl E 1 M_X8_classOf [.inr k, .inl x1] μ Q := by
  show Gg E 1 M_X8_classOf 0 [some (.inr k), some (.inl x1), none] [] μ Q
  refine r_aloadn (q := 1) DM_X8_classOf_0 rfl rfl ?_
  refine r_iloadn (q := 2) DM_X8_classOf_1 rfl rfl ?_
  refine r_iconst (q := 3) (n := 0) DM_X8_classOf_2 rfl ?_
  have i1 := h.1
  replace h := h.2
  refine r_callSi [.inr k, .inl x1, .inl 0] (q := 6) DM_X8_classOf_3 rfl kM_X8_of lRX8_158 rfl (by decide) (Nat.le_of_ble_eq_true rfl) rfl (k_X8_of hk i1 ⟨_, rfl, ?_⟩)
  refine v_istoren (q := 7) (ls' := [some (.inr k), some (.inl x1), some (.inl (μ k (13 + 13 * x1 + 0)))]) DM_X8_classOf_6 rfl (by decide) rfl ?_
  refine r_iloadn (q := 8) DM_X8_classOf_7 rfl rfl ?_
  refine r_iconst (q := 9) (n := 5) DM_X8_classOf_8 rfl ?_
  have i2 := h.1
  replace h := h.2
  refine r_icne (q := 12) (t := 16) DM_X8_classOf_9 rfl (by decide) ⟨⟨i2, (by decide)⟩, fun cc => ?_, fun cc => ?_⟩
  · replace h := h.1 cc
    refine r_iloadn (q := 17) DM_X8_classOf_16 rfl rfl ?_
    refine r_iconst (q := 18) (n := 4) DM_X8_classOf_17 rfl ?_
    refine r_icne (q := 21) (t := 25) DM_X8_classOf_18 rfl (by decide) ⟨⟨i2, (by decide)⟩, fun cc => ?_, fun cc => ?_⟩
    · replace h := h.1 cc
      refine r_iconst (q := 26) (n := 1) DM_X8_classOf_25 rfl ?_
      exact r_ret (v := some (.inl 1)) ⟨DM_X8_classOf_26, Or.inl rfl⟩ h
    · replace h := h.2 cc
      refine r_iconst (q := 22) (n := 2) DM_X8_classOf_21 rfl ?_
      refine r_goto (q := 26) DM_X8_classOf_22 (by decide) ?_
      exact r_ret (v := some (.inl 2)) ⟨DM_X8_classOf_26, Or.inl rfl⟩ h
  · replace h := h.2 cc
    refine r_iconst (q := 13) (n := 0) DM_X8_classOf_12 rfl ?_
    refine r_goto (q := 26) DM_X8_classOf_13 (by decide) ?_
    exact r_ret (v := some (.inl 0)) ⟨DM_X8_classOf_26, Or.inl rfl⟩ h
set_option maxRecDepth 20000 in
theorem s_X8_letterOf {E : Ex} {μ : Mem} {Q : Option Vl → Mem → Prop} {x1 x2 : Int} {k : Nat} (hk : shp k = (0, 91, [])) (h : (0 ≤ 13 + 13 * x1 + 3 ∧ 13 + 13 * x1 + 3 < 91) ∧ inR x2 ∧ inR (μ k (13 + 13 * x1 + 3)) ∧ (x2 < (μ k (13 + 13 * x1 + 3)) → (0 ≤ 13 + 13 * x1 + 0 ∧ 13 + 13 * x1 + 0 < 91) ∧ inR (μ k (13 + 13 * x1 + 0)) ∧ ((μ k (13 + 13 * x1 + 0)) ≠ 2 → (0 ≤ 13 + 13 * x1 + (4 + x2) ∧ 13 + 13 * x1 + (4 + x2) < 91) ∧ Q (some (.inl (μ k (13 + 13 * x1 + (4 + x2))))) μ) ∧ ((μ k (13 + 13 * x1 + 0)) = 2 → (0 ≤ 13 + 13 * x1 + (4 + (((μ k (13 + 13 * x1 + 3)) - 1) - x2)) ∧ 13 + 13 * x1 + (4 + (((μ k (13 + 13 * x1 + 3)) - 1) - x2)) < 91) ∧ Q (some (.inl (μ k (13 + 13 * x1 + (4 + (((μ k (13 + 13 * x1 + 3)) - 1) - x2)))))) μ)) ∧ (¬ x2 < (μ k (13 + 13 * x1 + 3)) → Q (some (.inl (-1))) μ)) : Cl E 1 M_X8_letterOf [.inr k, .inl x1, .inl x2] μ Q := by
  show Gg E 1 M_X8_letterOf 0 [some (.inr k), some (.inl x1), some (.inl x2), none] [] μ Q
  refine r_aloadn (q := 1) DM_X8_letterOf_0 rfl rfl ?_
  refine r_iloadn (q := 2) DM_X8_letterOf_1 rfl rfl ?_
  refine r_iconst (q := 3) (n := 3) DM_X8_letterOf_2 rfl ?_
  have i1 := h.1
  replace h := h.2
  refine r_callSi [.inr k, .inl x1, .inl 3] (q := 6) DM_X8_letterOf_3 rfl kM_X8_of lRX8_158 rfl (by decide) (Nat.le_of_ble_eq_true rfl) rfl (k_X8_of hk i1 ⟨_, rfl, ?_⟩)
  refine v_istoren (q := 7) (ls' := [some (.inr k), some (.inl x1), some (.inl x2), some (.inl (μ k (13 + 13 * x1 + 3)))]) DM_X8_letterOf_6 rfl (by decide) rfl ?_
  refine r_iloadn (q := 8) DM_X8_letterOf_7 rfl rfl ?_
  refine r_iloadn (q := 9) DM_X8_letterOf_8 rfl rfl ?_
  have i2 := h.1
  replace h := h.2
  have i3 := h.1
  replace h := h.2
  refine r_iclt (q := 12) (t := 14) DM_X8_letterOf_9 rfl (by decide) ⟨⟨i2, i3⟩, fun cc => ?_, fun cc => ?_⟩
  · replace h := h.1 cc
    refine r_aloadn (q := 15) DM_X8_letterOf_14 rfl rfl ?_
    refine r_iloadn (q := 16) DM_X8_letterOf_15 rfl rfl ?_
    refine r_iconst (q := 17) (n := 4) DM_X8_letterOf_16 rfl ?_
    refine r_aloadn (q := 18) DM_X8_letterOf_17 rfl rfl ?_
    refine r_iloadn (q := 19) DM_X8_letterOf_18 rfl rfl ?_
    refine r_iconst (q := 20) (n := 0) DM_X8_letterOf_19 rfl ?_
    have i4 := h.1
    replace h := h.2
    refine r_callSi [.inr k, .inl x1, .inl 0] (q := 23) DM_X8_letterOf_20 rfl kM_X8_of lRX8_158 rfl (by decide) (Nat.le_of_ble_eq_true rfl) rfl (k_X8_of hk i4 ⟨_, rfl, ?_⟩)
    refine r_iconst (q := 24) (n := 2) DM_X8_letterOf_23 rfl ?_
    have i5 := h.1
    replace h := h.2
    refine r_icne (q := 27) (t := 35) DM_X8_letterOf_24 rfl (by decide) ⟨⟨i5, (by decide)⟩, fun cc => ?_, fun cc => ?_⟩
    · replace h := h.1 cc
      refine r_iloadn (q := 36) DM_X8_letterOf_35 rfl rfl ?_
      refine r_iadd (q := 37) DM_X8_letterOf_36 rfl ?_
      have i6 := h.1
      replace h := h.2
      refine r_callSi [.inr k, .inl x1, .inl (4 + x2)] (q := 40) DM_X8_letterOf_37 rfl kM_X8_of lRX8_158 rfl (by decide) (Nat.le_of_ble_eq_true rfl) rfl (k_X8_of hk i6 ⟨_, rfl, ?_⟩)
      exact r_ret (v := some (.inl (μ k (13 + 13 * x1 + (4 + x2))))) ⟨DM_X8_letterOf_40, Or.inl rfl⟩ h
    · replace h := h.2 cc
      refine r_iloadn (q := 28) DM_X8_letterOf_27 rfl rfl ?_
      refine r_iconst (q := 29) (n := 1) DM_X8_letterOf_28 rfl ?_
      refine r_isub (q := 30) DM_X8_letterOf_29 rfl ?_
      refine r_iloadn (q := 31) DM_X8_letterOf_30 rfl rfl ?_
      refine r_isub (q := 32) DM_X8_letterOf_31 rfl ?_
      refine r_goto (q := 36) DM_X8_letterOf_32 (by decide) ?_
      refine r_iadd (q := 37) DM_X8_letterOf_36 rfl ?_
      have i7 := h.1
      replace h := h.2
      refine r_callSi [.inr k, .inl x1, .inl (4 + (((μ k (13 + 13 * x1 + 3)) - 1) - x2))] (q := 40) DM_X8_letterOf_37 rfl kM_X8_of lRX8_158 rfl (by decide) (Nat.le_of_ble_eq_true rfl) rfl (k_X8_of hk i7 ⟨_, rfl, ?_⟩)
      exact r_ret (v := some (.inl (μ k (13 + 13 * x1 + (4 + (((μ k (13 + 13 * x1 + 3)) - 1) - x2)))))) ⟨DM_X8_letterOf_40, Or.inl rfl⟩ h
  · replace h := h.2 cc
    refine r_iconst (q := 13) (n := (-1)) DM_X8_letterOf_12 rfl ?_
    exact r_ret (v := some (.inl (-1))) ⟨DM_X8_letterOf_13, Or.inl rfl⟩ h
set_option maxRecDepth 20000 in
theorem s_X8_byteAt {E : Ex} {μ : Mem} {Q : Option Vl → Mem → Prop} {x1 : Int}  (h : inR x1 ∧ inR (μ 83 6) ∧ (x1 ≥ (μ 83 6) → Q (some (.inl (-1))) μ) ∧ (¬ x1 ≥ (μ 83 6) → (0 ≤ x1 ∧ x1 < 120) ∧ Q (some (.inl (μ 88 x1))) μ)) : Cl E 0 M_X8_byteAt [.inr 83, .inl x1] μ Q := by
  show Gg E 0 M_X8_byteAt 0 [some (.inr 83), some (.inl x1)] [] μ Q
  refine r_iloadn (q := 1) DM_X8_byteAt_0 rfl rfl ?_
  refine r_aloadn (q := 2) DM_X8_byteAt_1 rfl rfl ?_
  refine v_getI (q := 5) (ji := 6) DM_X8_byteAt_2 rfl fRX8_91 sh_83 rfl rfl ?_
  have i1 := h.1
  replace h := h.2
  have i2 := h.1
  replace h := h.2
  refine r_icge (q := 8) (t := 17) DM_X8_byteAt_5 rfl (by decide) ⟨⟨i1, i2⟩, fun cc => ?_, fun cc => ?_⟩
  · replace h := h.1 cc
    refine r_iconst (q := 18) (n := (-1)) DM_X8_byteAt_17 rfl ?_
    exact r_ret (v := some (.inl (-1))) ⟨DM_X8_byteAt_18, Or.inl rfl⟩ h
  · replace h := h.2 cc
    refine r_aloadn (q := 9) DM_X8_byteAt_8 rfl rfl ?_
    refine r_getR (q := 12) (r := 88) DM_X8_byteAt_9 rfl fRX8_22 sh_83 rfl ?_
    refine r_iloadn (q := 13) DM_X8_byteAt_12 rfl rfl ?_
    refine r_iald (q := 14) DM_X8_byteAt_13 rfl sh_88 (by decide) ⟨h.1, ?_⟩
    have i3 := h.1
    replace h := h.2
    refine r_goto (q := 18) DM_X8_byteAt_14 (by decide) ?_
    exact r_ret (v := some (.inl (μ 88 x1))) ⟨DM_X8_byteAt_18, Or.inl rfl⟩ h
set_option maxRecDepth 20000 in
theorem s_X8_isWell {E : Ex} {μ : Mem} {Q : Option Vl → Mem → Prop}  (h : inR (μ 83 8) ∧ ((μ 83 8) ≥ 0 → Q (some (.inl (bi false))) μ) ∧ (¬ (μ 83 8) ≥ 0 → Q (some (.inl (bi true))) μ)) : Cl E 0 M_X8_isWell [.inr 83] μ Q := by
  show Gg E 0 M_X8_isWell 0 [some (.inr 83)] [] μ Q
  refine r_aloadn (q := 1) DM_X8_isWell_0 rfl rfl ?_
  refine v_getI (q := 4) (ji := 8) DM_X8_isWell_1 rfl fRX8_110 sh_83 rfl rfl ?_
  have i1 := h.1
  replace h := h.2
  refine r_ifge (q := 7) (t := 11) DM_X8_isWell_4 rfl (by decide) ⟨i1, fun cc => ?_, fun cc => ?_⟩
  · replace h := h.1 cc
    refine r_iconst (q := 12) (n := 0) DM_X8_isWell_11 rfl ?_
    exact r_ret (v := some (.inl 0)) ⟨DM_X8_isWell_12, Or.inr ⟨rfl, Or.inl rfl⟩⟩ h
  · replace h := h.2 cc
    refine r_iconst (q := 8) (n := 1) DM_X8_isWell_7 rfl ?_
    refine r_goto (q := 12) DM_X8_isWell_8 (by decide) ?_
    exact r_ret (v := some (.inl 1)) ⟨DM_X8_isWell_12, Or.inr ⟨rfl, Or.inr rfl⟩⟩ h
set_option maxRecDepth 20000 in
theorem s_X8_isName {E : Ex} {μ : Mem} {Q : Option Vl → Mem → Prop}  (h : Cl E 0 M_X8_isWell [.inr 83] μ (fun vv μ1 => ∃ v2, vv = some (.inl (bi v2)) ∧ (v2 = false → Q (some (.inl (bi false))) μ1) ∧ (v2 = true → inR (μ1 83 11) ∧ ((μ1 83 11) ≠ 1 → Q (some (.inl (bi false))) μ1) ∧ ((μ1 83 11) = 1 → inR (μ1 83 12) ∧ ((μ1 83 12) > 104 → Q (some (.inl (bi false))) μ1) ∧ (¬ (μ1 83 12) > 104 → Q (some (.inl (bi true))) μ1))))) : Cl E 1 M_X8_isName [.inr 83] μ Q := by
  show Gg E 1 M_X8_isName 0 [some (.inr 83)] [] μ Q
  refine r_aloadn (q := 1) DM_X8_isName_0 rfl rfl ?_
  refine r_callVi [] (q := 4) DM_X8_isName_1 rfl kM_X8_isWell lRX8_113 sh_83 rfl rfl (by decide) (Nat.le_of_ble_eq_true rfl) rfl (Cl.imp h (fun vv μ1 h => ?_))
  obtain ⟨v2, hv, h⟩ := h
  refine ⟨_, hv, ?_⟩
  refine r_bbeq (q := 7) (t := 28) DM_X8_isName_4 rfl (by decide) ⟨fun cc => ?_, fun cc => ?_⟩
  · replace h := h.1 cc
    refine r_iconst (q := 29) (n := 0) DM_X8_isName_28 rfl ?_
    exact r_ret (v := some (.inl 0)) ⟨DM_X8_isName_29, Or.inr ⟨rfl, Or.inl rfl⟩⟩ h
  · replace h := h.2 cc
    refine r_aloadn (q := 8) DM_X8_isName_7 rfl rfl ?_
    refine v_getI (q := 11) (ji := 11) DM_X8_isName_8 rfl fRX8_107 sh_83 rfl rfl ?_
    refine r_iconst (q := 12) (n := 1) DM_X8_isName_11 rfl ?_
    have i3 := h.1
    replace h := h.2
    refine r_icne (q := 15) (t := 28) DM_X8_isName_12 rfl (by decide) ⟨⟨i3, (by decide)⟩, fun cc => ?_, fun cc => ?_⟩
    · replace h := h.1 cc
      refine r_iconst (q := 29) (n := 0) DM_X8_isName_28 rfl ?_
      exact r_ret (v := some (.inl 0)) ⟨DM_X8_isName_29, Or.inr ⟨rfl, Or.inl rfl⟩⟩ h
    · replace h := h.2 cc
      refine r_aloadn (q := 16) DM_X8_isName_15 rfl rfl ?_
      refine v_getI (q := 19) (ji := 12) DM_X8_isName_16 rfl fRX8_104 sh_83 rfl rfl ?_
      refine r_bipush (q := 21) (n := 104) DM_X8_isName_19 rfl (by decide) ?_
      have i4 := h.1
      replace h := h.2
      refine r_icgt (q := 24) (t := 28) DM_X8_isName_21 rfl (by decide) ⟨⟨i4, (by decide)⟩, fun cc => ?_, fun cc => ?_⟩
      · replace h := h.1 cc
        refine r_iconst (q := 29) (n := 0) DM_X8_isName_28 rfl ?_
        exact r_ret (v := some (.inl 0)) ⟨DM_X8_isName_29, Or.inr ⟨rfl, Or.inl rfl⟩⟩ h
      · replace h := h.2 cc
        refine r_iconst (q := 25) (n := 1) DM_X8_isName_24 rfl ?_
        refine r_goto (q := 29) DM_X8_isName_25 (by decide) ?_
        exact r_ret (v := some (.inl 1)) ⟨DM_X8_isName_29, Or.inr ⟨rfl, Or.inr rfl⟩⟩ h
set_option maxRecDepth 20000 in
theorem s_X8_kindOf {E : Ex} {μ : Mem} {Q : Option Vl → Mem → Prop} {x0 : Int}  (h : inR x0 ∧ (x0 ≠ 112 → (x0 ≠ 113 → (x0 ≠ 114 → (x0 ≠ 115 → (x0 ≠ 116 → Q (some (.inl 0)) μ) ∧ (x0 = 116 → Q (some (.inl 5)) μ)) ∧ (x0 = 115 → Q (some (.inl 4)) μ)) ∧ (x0 = 114 → Q (some (.inl 3)) μ)) ∧ (x0 = 113 → Q (some (.inl 2)) μ)) ∧ (x0 = 112 → Q (some (.inl 1)) μ)) : Cl E 0 M_X8_kindOf [.inl x0] μ Q := by
  show Gg E 0 M_X8_kindOf 0 [some (.inl x0)] [] μ Q
  refine r_iloadn (q := 1) DM_X8_kindOf_0 rfl rfl ?_
  refine r_bipush (q := 3) (n := 112) DM_X8_kindOf_1 rfl (by decide) ?_
  have i1 := h.1
  replace h := h.2
  refine r_icne (q := 6) (t := 10) DM_X8_kindOf_3 rfl (by decide) ⟨⟨i1, (by decide)⟩, fun cc => ?_, fun cc => ?_⟩
  · replace h := h.1 cc
    refine r_iloadn (q := 11) DM_X8_kindOf_10 rfl rfl ?_
    refine r_bipush (q := 13) (n := 113) DM_X8_kindOf_11 rfl (by decide) ?_
    refine r_icne (q := 16) (t := 20) DM_X8_kindOf_13 rfl (by decide) ⟨⟨i1, (by decide)⟩, fun cc => ?_, fun cc => ?_⟩
    · replace h := h.1 cc
      refine r_iloadn (q := 21) DM_X8_kindOf_20 rfl rfl ?_
      refine r_bipush (q := 23) (n := 114) DM_X8_kindOf_21 rfl (by decide) ?_
      refine r_icne (q := 26) (t := 30) DM_X8_kindOf_23 rfl (by decide) ⟨⟨i1, (by decide)⟩, fun cc => ?_, fun cc => ?_⟩
      · replace h := h.1 cc
        refine r_iloadn (q := 31) DM_X8_kindOf_30 rfl rfl ?_
        refine r_bipush (q := 33) (n := 115) DM_X8_kindOf_31 rfl (by decide) ?_
        refine r_icne (q := 36) (t := 40) DM_X8_kindOf_33 rfl (by decide) ⟨⟨i1, (by decide)⟩, fun cc => ?_, fun cc => ?_⟩
        · replace h := h.1 cc
          refine r_iloadn (q := 41) DM_X8_kindOf_40 rfl rfl ?_
          refine r_bipush (q := 43) (n := 116) DM_X8_kindOf_41 rfl (by decide) ?_
          refine r_icne (q := 46) (t := 50) DM_X8_kindOf_43 rfl (by decide) ⟨⟨i1, (by decide)⟩, fun cc => ?_, fun cc => ?_⟩
          · replace h := h.1 cc
            refine r_iconst (q := 51) (n := 0) DM_X8_kindOf_50 rfl ?_
            exact r_ret (v := some (.inl 0)) ⟨DM_X8_kindOf_51, Or.inl rfl⟩ h
          · replace h := h.2 cc
            refine r_iconst (q := 47) (n := 5) DM_X8_kindOf_46 rfl ?_
            refine r_goto (q := 51) DM_X8_kindOf_47 (by decide) ?_
            exact r_ret (v := some (.inl 5)) ⟨DM_X8_kindOf_51, Or.inl rfl⟩ h
        · replace h := h.2 cc
          refine r_iconst (q := 37) (n := 4) DM_X8_kindOf_36 rfl ?_
          refine r_goto (q := 51) DM_X8_kindOf_37 (by decide) ?_
          exact r_ret (v := some (.inl 4)) ⟨DM_X8_kindOf_51, Or.inl rfl⟩ h
      · replace h := h.2 cc
        refine r_iconst (q := 27) (n := 3) DM_X8_kindOf_26 rfl ?_
        refine r_goto (q := 51) DM_X8_kindOf_27 (by decide) ?_
        exact r_ret (v := some (.inl 3)) ⟨DM_X8_kindOf_51, Or.inl rfl⟩ h
    · replace h := h.2 cc
      refine r_iconst (q := 17) (n := 2) DM_X8_kindOf_16 rfl ?_
      refine r_goto (q := 51) DM_X8_kindOf_17 (by decide) ?_
      exact r_ret (v := some (.inl 2)) ⟨DM_X8_kindOf_51, Or.inl rfl⟩ h
  · replace h := h.2 cc
    refine r_iconst (q := 7) (n := 1) DM_X8_kindOf_6 rfl ?_
    refine r_goto (q := 51) DM_X8_kindOf_7 (by decide) ?_
    exact r_ret (v := some (.inl 1)) ⟨DM_X8_kindOf_51, Or.inl rfl⟩ h
set_option maxRecDepth 20000 in
theorem s_X8_power {E : Ex} {μ : Mem} {Q : Option Vl → Mem → Prop} {x0 x1 : Int}  (h : Gg E 0 M_X8_power 4 [some (.inl x0), some (.inl x1), some (.inl 1), some (.inl 0)] [] μ Q) : Cl E 0 M_X8_power [.inl x0, .inl x1] μ Q := by
  show Gg E 0 M_X8_power 0 [some (.inl x0), some (.inl x1), none, none] [] μ Q
  refine r_iconst (q := 1) (n := 1) DM_X8_power_0 rfl ?_
  refine v_istoren (q := 2) (ls' := [some (.inl x0), some (.inl x1), some (.inl 1), none]) DM_X8_power_1 rfl (by decide) rfl ?_
  refine r_iconst (q := 3) (n := 0) DM_X8_power_2 rfl ?_
  refine v_istoren (q := 4) (ls' := [some (.inl x0), some (.inl x1), some (.inl 1), some (.inl 0)]) DM_X8_power_3 rfl (by decide) rfl ?_
  exact h
set_option maxRecDepth 20000 in
theorem s_X8_power_4 {E : Ex} {μ : Mem} {Q : Option Vl → Mem → Prop} {x0 x1 x2 x3 : Int}  (h : inR x3 ∧ inR x1 ∧ (x3 ≥ x1 → Q (some (.inl x2)) μ) ∧ (¬ x3 ≥ x1 → Gg E 0 M_X8_power 4 [some (.inl x0), some (.inl x1), some (.inl (x2 * x0)), some (.inl (x3 + 1))] [] μ Q)) : Gg E 0 M_X8_power 4 [some (.inl x0), some (.inl x1), some (.inl x2), some (.inl x3)] [] μ Q := by
  refine r_iloadn (q := 5) DM_X8_power_4 rfl rfl ?_
  refine r_iloadn (q := 6) DM_X8_power_5 rfl rfl ?_
  have i1 := h.1
  replace h := h.2
  have i2 := h.1
  replace h := h.2
  refine r_icge (q := 9) (t := 19) DM_X8_power_6 rfl (by decide) ⟨⟨i1, i2⟩, fun cc => ?_, fun cc => ?_⟩
  · replace h := h.1 cc
    refine r_iloadn (q := 20) DM_X8_power_19 rfl rfl ?_
    exact r_ret (v := some (.inl x2)) ⟨DM_X8_power_20, Or.inl rfl⟩ h
  · replace h := h.2 cc
    refine r_iloadn (q := 10) DM_X8_power_9 rfl rfl ?_
    refine r_iloadn (q := 11) DM_X8_power_10 rfl rfl ?_
    refine r_imul (q := 12) DM_X8_power_11 rfl ?_
    refine v_istoren (q := 13) (ls' := [some (.inl x0), some (.inl x1), some (.inl (x2 * x0)), some (.inl x3)]) DM_X8_power_12 rfl (by decide) rfl ?_
    refine v_iinc (q := 16) (ls' := [some (.inl x0), some (.inl x1), some (.inl (x2 * x0)), some (.inl (x3 + 1))]) DM_X8_power_13 rfl rfl (by decide) rfl ?_
    refine r_goto (q := 4) DM_X8_power_16 (by decide) ?_
    exact h
set_option maxRecDepth 20000 in
theorem s_X8_copies {E : Ex} {μ : Mem} {Q : Option Vl → Mem → Prop} {x1 x3 : Int} {f nf : Nat} (hf : shp f = (0, nf, [])) (hnf : nf < 2147483648) {t nt : Nat} (ht : shp t = (0, nt, [])) (hnt : nt < 2147483648) (h : Gg E 0 M_X8_copies 3 [some (.inr f), some (.inl x1), some (.inr t), some (.inl x3), some (.inl 0)] [] μ Q) : Cl E 0 M_X8_copies [.inr f, .inl x1, .inr t, .inl x3] μ Q := by
  show Gg E 0 M_X8_copies 0 [some (.inr f), some (.inl x1), some (.inr t), some (.inl x3), none] [] μ Q
  refine r_iconst (q := 1) (n := 0) DM_X8_copies_0 rfl ?_
  refine v_istore (q := 3) (ls' := [some (.inr f), some (.inl x1), some (.inr t), some (.inl x3), some (.inl 0)]) DM_X8_copies_1 rfl (by decide) rfl ?_
  exact h
set_option maxRecDepth 20000 in
theorem s_X8_copies_3 {E : Ex} {μ : Mem} {Q : Option Vl → Mem → Prop} {x1 x3 x4 : Int} {f nf : Nat} (hf : shp f = (0, nf, [])) (hnf : nf < 2147483648) {t nt : Nat} (ht : shp t = (0, nt, [])) (hnt : nt < 2147483648) (h : inR x4 ∧ (x4 ≥ 91 → Q none μ) ∧ (¬ x4 ≥ 91 → (0 ≤ (x1 + x4) ∧ (x1 + x4) < (nf : Int)) ∧ (0 ≤ (x3 + x4) ∧ (x3 + x4) < (nt : Int)) ∧ ∀ μ3 : Mem, μ3 = up μ t (x3 + x4) (μ f (x1 + x4)) → Gg E 0 M_X8_copies 3 [some (.inr f), some (.inl x1), some (.inr t), some (.inl x3), some (.inl (x4 + 1))] [] μ3 Q)) : Gg E 0 M_X8_copies 3 [some (.inr f), some (.inl x1), some (.inr t), some (.inl x3), some (.inl x4)] [] μ Q := by
  refine r_iload (q := 5) DM_X8_copies_3 rfl rfl ?_
  refine r_bipush (q := 7) (n := 91) DM_X8_copies_5 rfl (by decide) ?_
  have i1 := h.1
  replace h := h.2
  refine r_icge (q := 10) (t := 28) DM_X8_copies_7 rfl (by decide) ⟨⟨i1, (by decide)⟩, fun cc => ?_, fun cc => ?_⟩
  · replace h := h.1 cc
    exact r_ret (v := none) ⟨DM_X8_copies_28, rfl⟩ h
  · replace h := h.2 cc
    refine r_aloadn (q := 11) DM_X8_copies_10 rfl rfl ?_
    refine r_iloadn (q := 12) DM_X8_copies_11 rfl rfl ?_
    refine r_iload (q := 14) DM_X8_copies_12 rfl rfl ?_
    refine r_iadd (q := 15) DM_X8_copies_14 rfl ?_
    refine r_aloadn (q := 16) DM_X8_copies_15 rfl rfl ?_
    refine r_iloadn (q := 17) DM_X8_copies_16 rfl rfl ?_
    refine r_iload (q := 19) DM_X8_copies_17 rfl rfl ?_
    refine r_iadd (q := 20) DM_X8_copies_19 rfl ?_
    refine r_iald (q := 21) DM_X8_copies_20 rfl hf hnf ⟨h.1, ?_⟩
    have i2 := h.1
    replace h := h.2
    refine v_iast (q := 22) DM_X8_copies_21 rfl ht hnt ⟨h.1, fun μ3 e3 => ?_⟩
    have i4 := h.1
    replace h := h.2 μ3 e3
    refine v_iinc (q := 25) (ls' := [some (.inr f), some (.inl x1), some (.inr t), some (.inl x3), some (.inl (x4 + 1))]) DM_X8_copies_22 rfl rfl (by decide) rfl ?_
    refine r_goto (q := 3) DM_X8_copies_25 (by decide) ?_
    exact h
set_option maxRecDepth 20000 in
theorem s_X8_manySo {E : Ex} {μ : Mem} {Q : Option Vl → Mem → Prop} {x1 : Int} {k : Nat} (hk : shp k = (0, 91, [])) (h : Gg E 1 M_X8_manySo 4 [some (.inr k), some (.inl x1), some (.inl 0), some (.inl 0)] [] μ Q) : Cl E 1 M_X8_manySo [.inr k, .inl x1] μ Q := by
  show Gg E 1 M_X8_manySo 0 [some (.inr k), some (.inl x1), none, none] [] μ Q
  refine r_iconst (q := 1) (n := 0) DM_X8_manySo_0 rfl ?_
  refine v_istoren (q := 2) (ls' := [some (.inr k), some (.inl x1), some (.inl 0), none]) DM_X8_manySo_1 rfl (by decide) rfl ?_
  refine r_iconst (q := 3) (n := 0) DM_X8_manySo_2 rfl ?_
  refine v_istoren (q := 4) (ls' := [some (.inr k), some (.inl x1), some (.inl 0), some (.inl 0)]) DM_X8_manySo_3 rfl (by decide) rfl ?_
  exact h
set_option maxRecDepth 20000 in
theorem s_X8_manySo_4 {E : Ex} {μ : Mem} {Q : Option Vl → Mem → Prop} {x1 x2 x3 : Int} {k : Nat} (hk : shp k = (0, 91, [])) (h : inR x3 ∧ inR (μ k 2) ∧ (x3 ≥ (μ k 2) → Q (some (.inl x2)) μ) ∧ (¬ x3 ≥ (μ k 2) → (0 ≤ 13 + 13 * x3 + 8 ∧ 13 + 13 * x3 + 8 < 91) ∧ inR (μ k (13 + 13 * x3 + 8)) ∧ inR x1 ∧ ((μ k (13 + 13 * x3 + 8)) ≠ x1 → Gg E 1 M_X8_manySo 4 [some (.inr k), some (.inl x1), some (.inl (x2 + 0)), some (.inl (x3 + 1))] [] μ Q) ∧ ((μ k (13 + 13 * x3 + 8)) = x1 → Gg E 1 M_X8_manySo 4 [some (.inr k), some (.inl x1), some (.inl (x2 + 1)), some (.inl (x3 + 1))] [] μ Q))) : Gg E 1 M_X8_manySo 4 [some (.inr k), some (.inl x1), some (.inl x2), some (.inl x3)] [] μ Q := by
  refine r_iloadn (q := 5) DM_X8_manySo_4 rfl rfl ?_
  refine r_aloadn (q := 6) DM_X8_manySo_5 rfl rfl ?_
  refine r_iconst (q := 7) (n := 2) DM_X8_manySo_6 rfl ?_
  refine r_iald (q := 8) DM_X8_manySo_7 rfl hk (by decide) ⟨by decide, ?_⟩
  have i1 := h.1
  replace h := h.2
  have i2 := h.1
  replace h := h.2
  refine r_icge (q := 11) (t := 36) DM_X8_manySo_8 rfl (by decide) ⟨⟨i1, i2⟩, fun cc => ?_, fun cc => ?_⟩
  · replace h := h.1 cc
    refine r_iloadn (q := 37) DM_X8_manySo_36 rfl rfl ?_
    exact r_ret (v := some (.inl x2)) ⟨DM_X8_manySo_37, Or.inl rfl⟩ h
  · replace h := h.2 cc
    refine r_iloadn (q := 12) DM_X8_manySo_11 rfl rfl ?_
    refine r_aloadn (q := 13) DM_X8_manySo_12 rfl rfl ?_
    refine r_iloadn (q := 14) DM_X8_manySo_13 rfl rfl ?_
    refine r_bipush (q := 16) (n := 8) DM_X8_manySo_14 rfl (by decide) ?_
    have i3 := h.1
    replace h := h.2
    refine r_callSi [.inr k, .inl x3, .inl 8] (q := 19) DM_X8_manySo_16 rfl kM_X8_of lRX8_158 rfl (by decide) (Nat.le_of_ble_eq_true rfl) rfl (k_X8_of hk i3 ⟨_, rfl, ?_⟩)
    refine r_iloadn (q := 20) DM_X8_manySo_19 rfl rfl ?_
    have i4 := h.1
    replace h := h.2
    have i5 := h.1
    replace h := h.2
    refine r_icne (q := 23) (t := 27) DM_X8_manySo_20 rfl (by decide) ⟨⟨i4, i5⟩, fun cc => ?_, fun cc => ?_⟩
    · replace h := h.1 cc
      refine r_iconst (q := 28) (n := 0) DM_X8_manySo_27 rfl ?_
      refine r_iadd (q := 29) DM_X8_manySo_28 rfl ?_
      refine v_istoren (q := 30) (ls' := [some (.inr k), some (.inl x1), some (.inl (x2 + 0)), some (.inl x3)]) DM_X8_manySo_29 rfl (by decide) rfl ?_
      refine v_iinc (q := 33) (ls' := [some (.inr k), some (.inl x1), some (.inl (x2 + 0)), some (.inl (x3 + 1))]) DM_X8_manySo_30 rfl rfl (by decide) rfl ?_
      refine r_goto (q := 4) DM_X8_manySo_33 (by decide) ?_
      exact h
    · replace h := h.2 cc
      refine r_iconst (q := 24) (n := 1) DM_X8_manySo_23 rfl ?_
      refine r_goto (q := 28) DM_X8_manySo_24 (by decide) ?_
      refine r_iadd (q := 29) DM_X8_manySo_28 rfl ?_
      refine v_istoren (q := 30) (ls' := [some (.inr k), some (.inl x1), some (.inl (x2 + 1)), some (.inl x3)]) DM_X8_manySo_29 rfl (by decide) rfl ?_
      refine v_iinc (q := 33) (ls' := [some (.inr k), some (.inl x1), some (.inl (x2 + 1)), some (.inl (x3 + 1))]) DM_X8_manySo_30 rfl rfl (by decide) rfl ?_
      refine r_goto (q := 4) DM_X8_manySo_33 (by decide) ?_
      exact h
set_option maxRecDepth 20000 in
theorem s_X8_rank {E : Ex} {μ : Mem} {Q : Option Vl → Mem → Prop} {x1 x2 : Int} {k : Nat} (hk : shp k = (0, 91, [])) (h : inR (μ k 1) ∧ ((μ k 1) ≠ 0 → (inR (μ k 1) ∧ (μ k 1) ≠ 0) ∧ Gg E 0 M_X8_rank 23 [some (.inr k), some (.inl x1), some (.inl x2), some (.inl ((jdiv (μ k 3) (μ k 1)) + x2)), some (.inl 0)] [] μ Q) ∧ ((μ k 1) = 0 → Gg E 0 M_X8_rank 23 [some (.inr k), some (.inl x1), some (.inl x2), some (.inl (0 + x2)), some (.inl 0)] [] μ Q)) : Cl E 0 M_X8_rank [.inr k, .inl x1, .inl x2] μ Q := by
  show Gg E 0 M_X8_rank 0 [some (.inr k), some (.inl x1), some (.inl x2), none, none] [] μ Q
  refine r_aloadn (q := 1) DM_X8_rank_0 rfl rfl ?_
  refine r_iconst (q := 2) (n := 1) DM_X8_rank_1 rfl ?_
  refine r_iald (q := 3) DM_X8_rank_2 rfl hk (by decide) ⟨by decide, ?_⟩
  have i1 := h.1
  replace h := h.2
  refine r_ifne (q := 6) (t := 10) DM_X8_rank_3 rfl (by decide) ⟨i1, fun cc => ?_, fun cc => ?_⟩
  · replace h := h.1 cc
    refine r_aloadn (q := 11) DM_X8_rank_10 rfl rfl ?_
    refine r_iconst (q := 12) (n := 3) DM_X8_rank_11 rfl ?_
    refine r_iald (q := 13) DM_X8_rank_12 rfl hk (by decide) ⟨by decide, ?_⟩
    refine r_aloadn (q := 14) DM_X8_rank_13 rfl rfl ?_
    refine r_iconst (q := 15) (n := 1) DM_X8_rank_14 rfl ?_
    refine r_iald (q := 16) DM_X8_rank_15 rfl hk (by decide) ⟨by decide, ?_⟩
    refine r_idiv (q := 17) DM_X8_rank_16 rfl h.1 ?_
    replace h := h.2
    refine r_iloadn (q := 18) DM_X8_rank_17 rfl rfl ?_
    refine r_iadd (q := 19) DM_X8_rank_18 rfl ?_
    refine v_istoren (q := 20) (ls' := [some (.inr k), some (.inl x1), some (.inl x2), some (.inl ((jdiv (μ k 3) (μ k 1)) + x2)), none]) DM_X8_rank_19 rfl (by decide) rfl ?_
    refine r_iconst (q := 21) (n := 0) DM_X8_rank_20 rfl ?_
    refine v_istore (q := 23) (ls' := [some (.inr k), some (.inl x1), some (.inl x2), some (.inl ((jdiv (μ k 3) (μ k 1)) + x2)), some (.inl 0)]) DM_X8_rank_21 rfl (by decide) rfl ?_
    exact h
  · replace h := h.2 cc
    refine r_iconst (q := 7) (n := 0) DM_X8_rank_6 rfl ?_
    refine r_goto (q := 17) DM_X8_rank_7 (by decide) ?_
    refine r_iloadn (q := 18) DM_X8_rank_17 rfl rfl ?_
    refine r_iadd (q := 19) DM_X8_rank_18 rfl ?_
    refine v_istoren (q := 20) (ls' := [some (.inr k), some (.inl x1), some (.inl x2), some (.inl (0 + x2)), none]) DM_X8_rank_19 rfl (by decide) rfl ?_
    refine r_iconst (q := 21) (n := 0) DM_X8_rank_20 rfl ?_
    refine v_istore (q := 23) (ls' := [some (.inr k), some (.inl x1), some (.inl x2), some (.inl (0 + x2)), some (.inl 0)]) DM_X8_rank_21 rfl (by decide) rfl ?_
    exact h
set_option maxRecDepth 20000 in
theorem s_X8_rank_23 {E : Ex} {μ : Mem} {Q : Option Vl → Mem → Prop} {x1 x2 x3 x4 : Int} {k : Nat} (hk : shp k = (0, 91, [])) (h : inR x4 ∧ (x4 ≥ 8 → Q (some (.inl 8)) μ) ∧ (¬ x4 ≥ 8 → (0 ≤ (5 + (jrem (x4 + x3) 8)) ∧ (5 + (jrem (x4 + x3) 8)) < 91) ∧ inR (μ k (5 + (jrem (x4 + x3) 8))) ∧ inR x1 ∧ ((μ k (5 + (jrem (x4 + x3) 8))) ≠ x1 → Gg E 0 M_X8_rank 23 [some (.inr k), some (.inl x1), some (.inl x2), some (.inl x3), some (.inl (x4 + 1))] [] μ Q) ∧ ((μ k (5 + (jrem (x4 + x3) 8))) = x1 → Q (some (.inl x4)) μ))) : Gg E 0 M_X8_rank 23 [some (.inr k), some (.inl x1), some (.inl x2), some (.inl x3), some (.inl x4)] [] μ Q := by
  refine r_iload (q := 25) DM_X8_rank_23 rfl rfl ?_
  refine r_bipush (q := 27) (n := 8) DM_X8_rank_25 rfl (by decide) ?_
  have i1 := h.1
  replace h := h.2
  refine r_icge (q := 30) (t := 54) DM_X8_rank_27 rfl (by decide) ⟨⟨i1, (by decide)⟩, fun cc => ?_, fun cc => ?_⟩
  · replace h := h.1 cc
    refine r_bipush (q := 56) (n := 8) DM_X8_rank_54 rfl (by decide) ?_
    exact r_ret (v := some (.inl 8)) ⟨DM_X8_rank_56, Or.inl rfl⟩ h
  · replace h := h.2 cc
    refine r_aloadn (q := 31) DM_X8_rank_30 rfl rfl ?_
    refine r_iconst (q := 32) (n := 5) DM_X8_rank_31 rfl ?_
    refine r_iload (q := 34) DM_X8_rank_32 rfl rfl ?_
    refine r_iloadn (q := 35) DM_X8_rank_34 rfl rfl ?_
    refine r_iadd (q := 36) DM_X8_rank_35 rfl ?_
    refine r_bipush (q := 38) (n := 8) DM_X8_rank_36 rfl (by decide) ?_
    refine r_irem (q := 39) DM_X8_rank_38 rfl (by decide) ?_
    refine r_iadd (q := 40) DM_X8_rank_39 rfl ?_
    refine r_iald (q := 41) DM_X8_rank_40 rfl hk (by decide) ⟨h.1, ?_⟩
    have i2 := h.1
    replace h := h.2
    refine r_iloadn (q := 42) DM_X8_rank_41 rfl rfl ?_
    have i3 := h.1
    replace h := h.2
    have i4 := h.1
    replace h := h.2
    refine r_icne (q := 45) (t := 48) DM_X8_rank_42 rfl (by decide) ⟨⟨i3, i4⟩, fun cc => ?_, fun cc => ?_⟩
    · replace h := h.1 cc
      refine v_iinc (q := 51) (ls' := [some (.inr k), some (.inl x1), some (.inl x2), some (.inl x3), some (.inl (x4 + 1))]) DM_X8_rank_48 rfl rfl (by decide) rfl ?_
      refine r_goto (q := 23) DM_X8_rank_51 (by decide) ?_
      exact h
    · replace h := h.2 cc
      refine r_iload (q := 47) DM_X8_rank_45 rfl rfl ?_
      exact r_ret (v := some (.inl x4)) ⟨DM_X8_rank_47, Or.inl rfl⟩ h
end C30

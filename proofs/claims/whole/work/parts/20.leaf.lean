/-! Leaves of the class: AlphaCourt's own small methods, Row. -/
set_option maxRecDepth 20000 in
theorem s_X7_isIn {E : Ex} {μ : Mem} {Q : Option Vl → Mem → Prop} {x0 x1 : Int}  (h : inR x0 ∧ (x0 < 0 → Q (some (.inl (bi false))) μ) ∧ (¬ x0 < 0 → inR x1 ∧ (x0 ≥ x1 → Q (some (.inl (bi false))) μ) ∧ (¬ x0 ≥ x1 → Q (some (.inl (bi true))) μ))) : Cl E 0 M_X7_isIn [.inl x0, .inl x1] μ Q := by
  show Gg E 0 M_X7_isIn 0 [some (.inl x0), some (.inl x1)] [] μ Q
  refine r_iloadn (q := 1) DM_X7_isIn_0 rfl rfl ?_
  have i1 := h.1
  replace h := h.2
  refine r_iflt (q := 4) (t := 13) DM_X7_isIn_1 rfl (by decide) ⟨i1, fun cc => ?_, fun cc => ?_⟩
  · replace h := h.1 cc
    refine r_iconst (q := 14) (n := 0) DM_X7_isIn_13 rfl ?_
    exact r_ret (v := some (.inl 0)) ⟨DM_X7_isIn_14, Or.inr ⟨rfl, Or.inl rfl⟩⟩ h
  · replace h := h.2 cc
    refine r_iloadn (q := 5) DM_X7_isIn_4 rfl rfl ?_
    refine r_iloadn (q := 6) DM_X7_isIn_5 rfl rfl ?_
    have i2 := h.1
    replace h := h.2
    refine r_icge (q := 9) (t := 13) DM_X7_isIn_6 rfl (by decide) ⟨⟨i1, i2⟩, fun cc => ?_, fun cc => ?_⟩
    · replace h := h.1 cc
      refine r_iconst (q := 14) (n := 0) DM_X7_isIn_13 rfl ?_
      exact r_ret (v := some (.inl 0)) ⟨DM_X7_isIn_14, Or.inr ⟨rfl, Or.inl rfl⟩⟩ h
    · replace h := h.2 cc
      refine r_iconst (q := 10) (n := 1) DM_X7_isIn_9 rfl ?_
      refine r_goto (q := 14) DM_X7_isIn_10 (by decide) ?_
      exact r_ret (v := some (.inl 1)) ⟨DM_X7_isIn_14, Or.inr ⟨rfl, Or.inr rfl⟩⟩ h
theorem k_X7_isIn {E : Ex} {μ : Mem} {Q : Option Vl → Mem → Prop} {a b : Int} (ia : inR a) (ib : inR b) (h : Q (some (.inl (bi (decide (0 ≤ a ∧ a < b))))) μ) : Cl E 0 M_X7_isIn [.inl a, .inl b] μ Q := by
  refine s_X7_isIn ⟨ia, fun c => ?_, fun c => ⟨ib, fun c2 => ?_, fun c2 => ?_⟩⟩
  · rwa [decide_eq_false (by omega)] at h
  · rwa [decide_eq_false (by omega)] at h
  · rwa [decide_eq_true (by omega)] at h
set_option maxRecDepth 20000 in
theorem s_X7_found {E : Ex} {μ : Mem} {Q : Option Vl → Mem → Prop} {x1 : Int}  (h : ∀ μ1 : Mem, μ1 = up μ 0 10 x1 → Q (some (.inl ((-1000010) - x1))) μ1) : Cl E 0 M_X7_found [.inr 0, .inl x1] μ Q := by
  show Gg E 0 M_X7_found 0 [some (.inr 0), some (.inl x1)] [] μ Q
  refine r_aloadn (q := 1) DM_X7_found_0 rfl rfl ?_
  refine r_iloadn (q := 2) DM_X7_found_1 rfl rfl ?_
  refine v_put (q := 5) (ji := 10) DM_X7_found_2 rfl pfRX7_280 sh_0 rfl rfl (Or.inl rfl) (fun μ1 e1 => ?_)
  replace h := h μ1 e1
  refine r_ldcw (q := 8) (n := (-1000010)) DM_X7_found_5 rfl nRX7_286 ?_
  refine r_iloadn (q := 9) DM_X7_found_8 rfl rfl ?_
  refine r_isub (q := 10) DM_X7_found_9 rfl ?_
  exact r_ret (v := some (.inl ((-1000010) - x1))) ⟨DM_X7_found_10, Or.inl rfl⟩ h
theorem k_X7_found {E : Ex} {μ : Mem} {Q : Option Vl → Mem → Prop} {f : Int} (h : ∀ μ1 : Mem, μ1 = up μ 0 10 f → Q (some (.inl (-1000010 - f))) μ1) : Cl E 0 M_X7_found [.inr 0, .inl f] μ Q := s_X7_found h
set_option maxRecDepth 20000 in
theorem s_X7_unfound {E : Ex} {μ : Mem} {Q : Option Vl → Mem → Prop} {x1 : Int}  (h : ∀ μ1 : Mem, μ1 = up μ 0 10 0 → Q (some (.inl x1)) μ1) : Cl E 0 M_X7_unfound [.inr 0, .inl x1] μ Q := by
  show Gg E 0 M_X7_unfound 0 [some (.inr 0), some (.inl x1)] [] μ Q
  refine r_aloadn (q := 1) DM_X7_unfound_0 rfl rfl ?_
  refine r_iconst (q := 2) (n := 0) DM_X7_unfound_1 rfl ?_
  refine v_put (q := 5) (ji := 10) DM_X7_unfound_2 rfl pfRX7_280 sh_0 rfl rfl (Or.inl rfl) (fun μ1 e1 => ?_)
  replace h := h μ1 e1
  refine r_iloadn (q := 6) DM_X7_unfound_5 rfl rfl ?_
  exact r_ret (v := some (.inl x1)) ⟨DM_X7_unfound_6, Or.inl rfl⟩ h
theorem k_X7_unfound {E : Ex} {μ : Mem} {Q : Option Vl → Mem → Prop} {f : Int} (h : ∀ μ1 : Mem, μ1 = up μ 0 10 0 → Q (some (.inl f)) μ1) : Cl E 0 M_X7_unfound [.inr 0, .inl f] μ Q := s_X7_unfound h
set_option maxRecDepth 20000 in
theorem s_X7_isPerson {E : Ex} {μ : Mem} {Q : Option Vl → Mem → Prop} {x1 : Int}  (h : inR x1 ∧ inR (μ 4 1) ∧ Q (some (.inl (bi (decide (0 ≤ x1 ∧ x1 < (μ 4 1)))))) μ) : Cl E 1 M_X7_isPerson [.inr 0, .inl x1] μ Q := by
  show Gg E 1 M_X7_isPerson 0 [some (.inr 0), some (.inl x1)] [] μ Q
  refine r_iloadn (q := 1) DM_X7_isPerson_0 rfl rfl ?_
  refine r_aloadn (q := 2) DM_X7_isPerson_1 rfl rfl ?_
  refine r_getR (q := 5) (r := 4) DM_X7_isPerson_2 rfl fRX7_25 sh_0 rfl ?_
  refine v_getI (q := 8) (ji := 1) DM_X7_isPerson_5 rfl fRX7_137 (co0 cK_4) rfl rfl ?_
  have i1 := h.1
  replace h := h.2
  have i2 := h.1
  replace h := h.2
  refine r_callSi [.inl x1, .inl (μ 4 1)] (q := 11) DM_X7_isPerson_8 rfl kM_X7_isIn lRX7_65 rfl (by decide) (Nat.le_of_ble_eq_true rfl) rfl (k_X7_isIn i1 i2 ⟨_, rfl, ?_⟩)
  exact r_ret (v := some (.inl (bi (decide (0 ≤ x1 ∧ x1 < (μ 4 1)))))) ⟨DM_X7_isPerson_11, Or.inr ⟨rfl, bi_01 _⟩⟩ h
theorem k_X7_isPerson {E : Ex} {μ : Mem} {Q : Option Vl → Mem → Prop} {p : Int} (ip : inR p) (i2 : inR (μ 4 1)) (h : Q (some (.inl (bi (decide (0 ≤ p ∧ p < μ 4 1))))) μ) : Cl E 1 M_X7_isPerson [.inr 0, .inl p] μ Q := s_X7_isPerson ⟨ip, i2, h⟩
set_option maxRecDepth 20000 in
theorem s_X7_isPlaceOfName {E : Ex} {μ : Mem} {Q : Option Vl → Mem → Prop} {x1 x2 : Int}  (h : inR x1 ∧ inR (μ 4 1) ∧ (¬ (0 ≤ x1 ∧ x1 < μ 4 1) → Q (some (.inl (bi false))) μ) ∧ ((0 ≤ x1 ∧ x1 < μ 4 1) → (0 ≤ x1 ∧ x1 < 6) ∧ inR x2 ∧ inR (μ (4 + 4) x1) ∧ (¬ (0 ≤ x2 ∧ x2 < (μ (4 + 4) x1)) → Q (some (.inl (bi false))) μ) ∧ ((0 ≤ x2 ∧ x2 < (μ (4 + 4) x1)) → Q (some (.inl (bi true))) μ))) : Cl E 2 M_X7_isPlaceOfName [.inr 0, .inl x1, .inl x2] μ Q := by
  show Gg E 2 M_X7_isPlaceOfName 0 [some (.inr 0), some (.inl x1), some (.inl x2)] [] μ Q
  refine r_aloadn (q := 1) DM_X7_isPlaceOfName_0 rfl rfl ?_
  refine r_iloadn (q := 2) DM_X7_isPlaceOfName_1 rfl rfl ?_
  have i1 := h.1
  replace h := h.2
  have i2 := h.1
  replace h := h.2
  refine r_callVi [.inl x1] (q := 5) DM_X7_isPlaceOfName_2 rfl kM_X7_isPerson lRX7_187 sh_0 rfl rfl (by decide) (Nat.le_of_ble_eq_true rfl) rfl (k_X7_isPerson i1 i2 ⟨_, rfl, ?_⟩)
  refine r_bieq (q := 8) (t := 28) DM_X7_isPlaceOfName_5 rfl (by decide) ⟨fun cc => ?_, fun cc => ?_⟩
  · replace h := h.1 cc
    refine r_iconst (q := 29) (n := 0) DM_X7_isPlaceOfName_28 rfl ?_
    exact r_ret (v := some (.inl 0)) ⟨DM_X7_isPlaceOfName_29, Or.inr ⟨rfl, Or.inl rfl⟩⟩ h
  · replace h := h.2 cc
    refine r_iloadn (q := 9) DM_X7_isPlaceOfName_8 rfl rfl ?_
    refine r_aloadn (q := 10) DM_X7_isPlaceOfName_9 rfl rfl ?_
    refine r_getR (q := 13) (r := 4) DM_X7_isPlaceOfName_10 rfl fRX7_25 sh_0 rfl ?_
    refine r_getR (q := 16) (r := 4 + 4) DM_X7_isPlaceOfName_13 rfl fRX7_197 (co0 cK_4) rfl ?_
    refine r_iloadn (q := 17) DM_X7_isPlaceOfName_16 rfl rfl ?_
    refine r_iald (q := 18) DM_X7_isPlaceOfName_17 rfl (co4 cK_4) (by decide) ⟨h.1, ?_⟩
    have i3 := h.1
    replace h := h.2
    have i4 := h.1
    replace h := h.2
    have i5 := h.1
    replace h := h.2
    refine r_callSi [.inl x2, .inl (μ (4 + 4) x1)] (q := 21) DM_X7_isPlaceOfName_18 rfl kM_X7_isIn lRX7_65 rfl (by decide) (Nat.le_of_ble_eq_true rfl) rfl (k_X7_isIn i4 i5 ⟨_, rfl, ?_⟩)
    refine r_bieq (q := 24) (t := 28) DM_X7_isPlaceOfName_21 rfl (by decide) ⟨fun cc => ?_, fun cc => ?_⟩
    · replace h := h.1 cc
      refine r_iconst (q := 29) (n := 0) DM_X7_isPlaceOfName_28 rfl ?_
      exact r_ret (v := some (.inl 0)) ⟨DM_X7_isPlaceOfName_29, Or.inr ⟨rfl, Or.inl rfl⟩⟩ h
    · replace h := h.2 cc
      refine r_iconst (q := 25) (n := 1) DM_X7_isPlaceOfName_24 rfl ?_
      refine r_goto (q := 29) DM_X7_isPlaceOfName_25 (by decide) ?_
      exact r_ret (v := some (.inl 1)) ⟨DM_X7_isPlaceOfName_29, Or.inr ⟨rfl, Or.inr rfl⟩⟩ h
set_option maxRecDepth 20000 in
theorem s_X6_isMissing {E : Ex} {μ : Mem} {Q : Option Vl → Mem → Prop} {r : Nat} (hr : roS r) (h : inR (μ r 2) ∧ ((μ r 2) ≠ (-1) → Q (some (.inl (bi false))) μ) ∧ ((μ r 2) = (-1) → Q (some (.inl (bi true))) μ)) : Cl E 0 M_X6_isMissing [.inr r] μ Q := by
  show Gg E 0 M_X6_isMissing 0 [some (.inr r)] [] μ Q
  refine r_aloadn (q := 1) DM_X6_isMissing_0 rfl rfl ?_
  refine v_getI (q := 4) (ji := 2) DM_X6_isMissing_1 rfl fRX6_15 (ro0 hr) rfl rfl ?_
  refine r_iconst (q := 5) (n := (-1)) DM_X6_isMissing_4 rfl ?_
  have i1 := h.1
  replace h := h.2
  refine r_icne (q := 8) (t := 12) DM_X6_isMissing_5 rfl (by decide) ⟨⟨i1, (by decide)⟩, fun cc => ?_, fun cc => ?_⟩
  · replace h := h.1 cc
    refine r_iconst (q := 13) (n := 0) DM_X6_isMissing_12 rfl ?_
    exact r_ret (v := some (.inl 0)) ⟨DM_X6_isMissing_13, Or.inr ⟨rfl, Or.inl rfl⟩⟩ h
  · replace h := h.2 cc
    refine r_iconst (q := 9) (n := 1) DM_X6_isMissing_8 rfl ?_
    refine r_goto (q := 13) DM_X6_isMissing_9 (by decide) ?_
    exact r_ret (v := some (.inl 1)) ⟨DM_X6_isMissing_13, Or.inr ⟨rfl, Or.inr rfl⟩⟩ h
theorem k_X6_isMissing {E : Ex} {μ : Mem} {Q : Option Vl → Mem → Prop} {r : Nat} (hr : roS r) (i : inR (μ r 2)) (h : Q (some (.inl (bi (decide (μ r 2 = -1))))) μ) : Cl E 0 M_X6_isMissing [.inr r] μ Q := by
  refine s_X6_isMissing hr ⟨i, fun c => ?_, fun c => ?_⟩
  · rwa [decide_eq_false (by omega)] at h
  · rwa [decide_eq_true (by omega)] at h
set_option maxRecDepth 20000 in
theorem s_X6_hasRange {E : Ex} {μ : Mem} {Q : Option Vl → Mem → Prop} {x1 x2 : Int} {r : Nat} (hr : roS r) (h : inR x2 ∧ (x2 < 0 → Q (some (.inl (bi false))) μ) ∧ (¬ x2 < 0 → inR x1 ∧ (x1 < 0 → Q (some (.inl (bi false))) μ) ∧ (¬ x1 < 0 → inR ((μ r 2) - x2) ∧ (x1 > ((μ r 2) - x2) → Q (some (.inl (bi false))) μ) ∧ (¬ x1 > ((μ r 2) - x2) → Q (some (.inl (bi true))) μ)))) : Cl E 0 M_X6_hasRange [.inr r, .inl x1, .inl x2] μ Q := by
  show Gg E 0 M_X6_hasRange 0 [some (.inr r), some (.inl x1), some (.inl x2)] [] μ Q
  refine r_iloadn (q := 1) DM_X6_hasRange_0 rfl rfl ?_
  have i1 := h.1
  replace h := h.2
  refine r_iflt (q := 4) (t := 22) DM_X6_hasRange_1 rfl (by decide) ⟨i1, fun cc => ?_, fun cc => ?_⟩
  · replace h := h.1 cc
    refine r_iconst (q := 23) (n := 0) DM_X6_hasRange_22 rfl ?_
    exact r_ret (v := some (.inl 0)) ⟨DM_X6_hasRange_23, Or.inr ⟨rfl, Or.inl rfl⟩⟩ h
  · replace h := h.2 cc
    refine r_iloadn (q := 5) DM_X6_hasRange_4 rfl rfl ?_
    have i2 := h.1
    replace h := h.2
    refine r_iflt (q := 8) (t := 22) DM_X6_hasRange_5 rfl (by decide) ⟨i2, fun cc => ?_, fun cc => ?_⟩
    · replace h := h.1 cc
      refine r_iconst (q := 23) (n := 0) DM_X6_hasRange_22 rfl ?_
      exact r_ret (v := some (.inl 0)) ⟨DM_X6_hasRange_23, Or.inr ⟨rfl, Or.inl rfl⟩⟩ h
    · replace h := h.2 cc
      refine r_iloadn (q := 9) DM_X6_hasRange_8 rfl rfl ?_
      refine r_aloadn (q := 10) DM_X6_hasRange_9 rfl rfl ?_
      refine v_getI (q := 13) (ji := 2) DM_X6_hasRange_10 rfl fRX6_15 (ro0 hr) rfl rfl ?_
      refine r_iloadn (q := 14) DM_X6_hasRange_13 rfl rfl ?_
      refine r_isub (q := 15) DM_X6_hasRange_14 rfl ?_
      have i3 := h.1
      replace h := h.2
      refine r_icgt (q := 18) (t := 22) DM_X6_hasRange_15 rfl (by decide) ⟨⟨i2, i3⟩, fun cc => ?_, fun cc => ?_⟩
      · replace h := h.1 cc
        refine r_iconst (q := 23) (n := 0) DM_X6_hasRange_22 rfl ?_
        exact r_ret (v := some (.inl 0)) ⟨DM_X6_hasRange_23, Or.inr ⟨rfl, Or.inl rfl⟩⟩ h
      · replace h := h.2 cc
        refine r_iconst (q := 19) (n := 1) DM_X6_hasRange_18 rfl ?_
        refine r_goto (q := 23) DM_X6_hasRange_19 (by decide) ?_
        exact r_ret (v := some (.inl 1)) ⟨DM_X6_hasRange_23, Or.inr ⟨rfl, Or.inr rfl⟩⟩ h
theorem k_X6_hasRange {E : Ex} {μ : Mem} {Q : Option Vl → Mem → Prop} {r : Nat} {a n : Int} (hr : roS r) (ia : inR a) (i_n : inR n) (i : 0 ≤ μ r 2 ∧ μ r 2 ≤ 40) (h : Q (some (.inl (bi (decide (0 ≤ n ∧ 0 ≤ a ∧ a + n ≤ μ r 2))))) μ) : Cl E 0 M_X6_hasRange [.inr r, .inl a, .inl n] μ Q := by
  refine s_X6_hasRange hr ⟨i_n, fun c => ?_, fun c => ⟨ia, fun c2 => ?_, fun c2 => ⟨by omega, fun c3 => ?_, fun c3 => ?_⟩⟩⟩
  · rwa [decide_eq_false (by omega)] at h
  · rwa [decide_eq_false (by omega)] at h
  · rwa [decide_eq_false (by omega)] at h
  · rwa [decide_eq_true (by omega)] at h
set_option maxRecDepth 20000 in
theorem s_X6_cut {E : Ex} {μ : Mem} {Q : Option Vl → Mem → Prop} {x1 : Int} {r : Nat} (hr : roS r) (h : inR (μ r 1) ∧ ((μ r 1) = 0 → Q (some (.inl (jbyte x1))) μ) ∧ ((μ r 1) = 1 → Q (some (.inl (jshort x1))) μ) ∧ (¬ (μ r 1) = 0 ∧ ¬ (μ r 1) = 1 → Q (some (.inl x1)) μ)) : Cl E 0 M_X6_cut [.inr r, .inl x1] μ Q := by
  show Gg E 0 M_X6_cut 0 [some (.inr r), some (.inl x1)] [] μ Q
  refine r_aloadn (q := 1) DM_X6_cut_0 rfl rfl ?_
  refine v_getI (q := 4) (ji := 1) DM_X6_cut_1 rfl fRX6_19 (ro0 hr) rfl rfl ?_
  have i1 := h.1
  replace h := h.2
  by_cases c0 : (μ r 1) = 0
  · replace h := h.1 c0
    refine r_lsw (off := 28) (q := 32) DM_X6_cut_4 i1 (by decide) (by rw [c0]; rfl) (by decide) ?_
    refine r_iloadn (q := 33) DM_X6_cut_32 rfl rfl ?_
    refine r_i2b (q := 34) DM_X6_cut_33 rfl ?_
    exact r_ret (v := some (.inl (jbyte x1))) ⟨DM_X6_cut_34, Or.inl rfl⟩ h
  by_cases c1 : (μ r 1) = 1
  · replace h := h.2.1 c1
    refine r_lsw (off := 31) (q := 35) DM_X6_cut_4 i1 (by decide) (by rw [c1]; rfl) (by decide) ?_
    refine r_iloadn (q := 36) DM_X6_cut_35 rfl rfl ?_
    refine r_i2s (q := 37) DM_X6_cut_36 rfl ?_
    exact r_ret (v := some (.inl (jshort x1))) ⟨DM_X6_cut_37, Or.inl rfl⟩ h
  replace h := h.2.2 ⟨c0, c1⟩
  refine r_lsw (off := 34) (q := 38) DM_X6_cut_4 i1 (by decide) (by simp only [List.toList_toArray, Op.lookupswitch.offset_cons, Op.lookupswitch.offset]; rw [if_neg (fun z => c0 z.symm)]; rw [if_neg (fun z => c1 z.symm)]) (by decide) ?_
  refine r_iloadn (q := 39) DM_X6_cut_38 rfl rfl ?_
  exact r_ret (v := some (.inl x1)) ⟨DM_X6_cut_39, Or.inl rfl⟩ h
set_option maxRecDepth 20000 in
theorem s_X6_begin {E : Ex} {μ : Mem} {Q : Option Vl → Mem → Prop} {x1 x2 : Int} {r : Nat} (hr : roS r) (h : ∀ μ1 : Mem, μ1 = up μ r 1 x1 → ∀ μ2 : Mem, μ2 = up μ1 r 2 x2 → Gg E 0 M_X6_begin 12 [some (.inr r), some (.inl x1), some (.inl x2), some (.inl 0)] [] μ2 Q) : Cl E 0 M_X6_begin [.inr r, .inl x1, .inl x2] μ Q := by
  show Gg E 0 M_X6_begin 0 [some (.inr r), some (.inl x1), some (.inl x2), none] [] μ Q
  refine r_aloadn (q := 1) DM_X6_begin_0 rfl rfl ?_
  refine r_iloadn (q := 2) DM_X6_begin_1 rfl rfl ?_
  refine v_put (q := 5) (ji := 1) DM_X6_begin_2 rfl pfRX6_19 (ro0 hr) rfl rfl (Or.inl rfl) (fun μ1 e1 => ?_)
  replace h := h μ1 e1
  refine r_aloadn (q := 6) DM_X6_begin_5 rfl rfl ?_
  refine r_iloadn (q := 7) DM_X6_begin_6 rfl rfl ?_
  refine v_put (q := 10) (ji := 2) DM_X6_begin_7 rfl pfRX6_15 (ro0 hr) rfl rfl (Or.inl rfl) (fun μ2 e2 => ?_)
  replace h := h μ2 e2
  refine r_iconst (q := 11) (n := 0) DM_X6_begin_10 rfl ?_
  refine v_istoren (q := 12) (ls' := [some (.inr r), some (.inl x1), some (.inl x2), some (.inl 0)]) DM_X6_begin_11 rfl (by decide) rfl ?_
  exact h
set_option maxRecDepth 20000 in
theorem s_X6_begin_12 {E : Ex} {μ : Mem} {Q : Option Vl → Mem → Prop} {x1 x2 x3 : Int} {r : Nat} (hr : roS r) (h : inR x3 ∧ (x3 ≥ 40 → Q none μ) ∧ (¬ x3 ≥ 40 → (0 ≤ x3 ∧ x3 < 40) ∧ ∀ μ2 : Mem, μ2 = up μ (r + 1) x3 0 → Gg E 0 M_X6_begin 12 [some (.inr r), some (.inl x1), some (.inl x2), some (.inl (x3 + 1))] [] μ2 Q)) : Gg E 0 M_X6_begin 12 [some (.inr r), some (.inl x1), some (.inl x2), some (.inl x3)] [] μ Q := by
  refine r_iloadn (q := 13) DM_X6_begin_12 rfl rfl ?_
  refine r_bipush (q := 15) (n := 40) DM_X6_begin_13 rfl (by decide) ?_
  have i1 := h.1
  replace h := h.2
  refine r_icge (q := 18) (t := 31) DM_X6_begin_15 rfl (by decide) ⟨⟨i1, (by decide)⟩, fun cc => ?_, fun cc => ?_⟩
  · replace h := h.1 cc
    exact r_ret (v := none) ⟨DM_X6_begin_31, rfl⟩ h
  · replace h := h.2 cc
    refine r_aloadn (q := 19) DM_X6_begin_18 rfl rfl ?_
    refine r_getR (q := 22) (r := r + 1) DM_X6_begin_19 rfl fRX6_9 (ro0 hr) rfl ?_
    refine r_iloadn (q := 23) DM_X6_begin_22 rfl rfl ?_
    refine r_iconst (q := 24) (n := 0) DM_X6_begin_23 rfl ?_
    refine v_iast (q := 25) DM_X6_begin_24 rfl (ro1 hr) (by decide) ⟨h.1, fun μ2 e2 => ?_⟩
    have i3 := h.1
    replace h := h.2 μ2 e2
    refine v_iinc (q := 28) (ls' := [some (.inr r), some (.inl x1), some (.inl x2), some (.inl (x3 + 1))]) DM_X6_begin_25 rfl rfl (by decide) rfl ?_
    refine r_goto (q := 12) DM_X6_begin_28 (by decide) ?_
    exact h

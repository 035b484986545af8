/-! Court: the small methods. A court's value is what lies in its ten cells. -/
abbrev CV : Type := Nat → Int → Int
def cv (μ : Mem) (c : Nat) : CV := fun j i => μ (c + j) i
def RgC (μ : Mem) (c : Nat) : Prop := ∀ (j : Nat) (i : Int), j < 10 → -2000000 ≤ μ (c + j) i ∧ μ (c + j) i ≤ 2000000
theorem RgC.f {μ : Mem} {c : Nat} (h : RgC μ c) (i : Int) : -2000000 ≤ μ c i ∧ μ c i ≤ 2000000 := h 0 i (by decide)
def cSeat (v : CV) (p : Int) : Bool := decide (v 8 p ≠ -1000000)
def cWait (v : CV) (p d : Int) : Bool := decide (v 8 p = -1000000 ∧ d < v 7 p)
def cServ (v : CV) (p d : Int) : Bool := decide (v 8 p ≠ -1000000 ∧ d < v 8 p + v 6 p)
def cState (v : CV) (p d : Int) : Int := if v 8 p = -1000000 then (if d < v 7 p then 0 else 3) else (if d < v 8 p + v 6 p then 1 else 2)
def cTurn (v : CV) (d b : Int) : Int := if v 0 3 = 0 then b else b + d / v 0 3
def cRead (v : CV) (p i : Int) : Int := v 5 (p * 4 + (if v 3 p = 2 then v 4 p - 1 - i else i))
def cPlace (v : CV) (l t : Int) : Int := (v 2 l - t) % 8
section C21
variable {E : Ex} {μ : Mem} {Q : Option Vl → Mem → Prop} {c : Nat} {p d b i l t : Int}
set_option maxRecDepth 20000 in
theorem s_X2_isSeated {E : Ex} {μ : Mem} {Q : Option Vl → Mem → Prop} {x1 : Int} {c : Nat} (hc : coS c) (h : (0 ≤ x1 ∧ x1 < 6) ∧ inR (μ (c + 8) x1) ∧ ((μ (c + 8) x1) = (-1000000) → Q (some (.inl (bi false))) μ) ∧ (¬ (μ (c + 8) x1) = (-1000000) → Q (some (.inl (bi true))) μ)) : Cl E 0 M_X2_isSeated [.inr c, .inl x1] μ Q := by
  show Gg E 0 M_X2_isSeated 0 [some (.inr c), some (.inl x1)] [] μ Q
  refine r_aloadn (q := 1) DM_X2_isSeated_0 rfl rfl ?_
  refine r_getR (q := 4) (r := c + 8) DM_X2_isSeated_1 rfl fRX2_33 (co0 hc) rfl ?_
  refine r_iloadn (q := 5) DM_X2_isSeated_4 rfl rfl ?_
  refine r_iald (q := 6) DM_X2_isSeated_5 rfl (co8 hc) (by decide) ⟨h.1, ?_⟩
  have i1 := h.1
  replace h := h.2
  refine r_ldc (q := 8) (n := (-1000000)) DM_X2_isSeated_6 rfl nRX2_65 ?_
  have i2 := h.1
  replace h := h.2
  refine r_iceq (q := 11) (t := 15) DM_X2_isSeated_8 rfl (by decide) ⟨⟨i2, (by decide)⟩, fun cc => ?_, fun cc => ?_⟩
  · replace h := h.1 cc
    refine r_iconst (q := 16) (n := 0) DM_X2_isSeated_15 rfl ?_
    exact r_ret (v := some (.inl 0)) ⟨DM_X2_isSeated_16, Or.inr ⟨rfl, Or.inl rfl⟩⟩ h
  · replace h := h.2 cc
    refine r_iconst (q := 12) (n := 1) DM_X2_isSeated_11 rfl ?_
    refine r_goto (q := 16) DM_X2_isSeated_12 (by decide) ?_
    exact r_ret (v := some (.inl 1)) ⟨DM_X2_isSeated_16, Or.inr ⟨rfl, Or.inr rfl⟩⟩ h
theorem k_X2_isSeated (hc : coS c) (hg : RgC μ c) (hp : 0 ≤ p ∧ p < 6) (h : Q (some (.inl (bi (cSeat (cv μ c) p)))) μ) : Cl E 0 M_X2_isSeated [.inr c, .inl p] μ Q := by
  have g := hg 8 p (by decide)
  refine s_X2_isSeated hc ⟨hp, by omega, fun cc => ?_, fun cc => ?_⟩
  · rwa [cSeat, cv, decide_eq_false (by omega)] at h
  · rwa [cSeat, cv, decide_eq_true (by omega)] at h
set_option maxRecDepth 20000 in
theorem s_X2_freeDay {E : Ex} {μ : Mem} {Q : Option Vl → Mem → Prop} {x1 : Int} {c : Nat} (hc : coS c) (h : (0 ≤ x1 ∧ x1 < 6) ∧ Q (some (.inl ((μ (c + 8) x1) + (μ (c + 6) x1)))) μ) : Cl E 0 M_X2_freeDay [.inr c, .inl x1] μ Q := by
  show Gg E 0 M_X2_freeDay 0 [some (.inr c), some (.inl x1)] [] μ Q
  refine r_aloadn (q := 1) DM_X2_freeDay_0 rfl rfl ?_
  refine r_getR (q := 4) (r := c + 8) DM_X2_freeDay_1 rfl fRX2_33 (co0 hc) rfl ?_
  refine r_iloadn (q := 5) DM_X2_freeDay_4 rfl rfl ?_
  refine r_iald (q := 6) DM_X2_freeDay_5 rfl (co8 hc) (by decide) ⟨h.1, ?_⟩
  have i1 := h.1
  replace h := h.2
  refine r_aloadn (q := 7) DM_X2_freeDay_6 rfl rfl ?_
  refine r_getR (q := 10) (r := c + 6) DM_X2_freeDay_7 rfl fRX2_27 (co0 hc) rfl ?_
  refine r_iloadn (q := 11) DM_X2_freeDay_10 rfl rfl ?_
  refine r_iald (q := 12) DM_X2_freeDay_11 rfl (co6 hc) (by decide) ⟨i1, ?_⟩
  refine r_iadd (q := 13) DM_X2_freeDay_12 rfl ?_
  exact r_ret (v := some (.inl ((μ (c + 8) x1) + (μ (c + 6) x1)))) ⟨DM_X2_freeDay_13, Or.inl rfl⟩ h
theorem k_X2_freeDay (hc : coS c) (hp : 0 ≤ p ∧ p < 6) (h : Q (some (.inl (μ (c + 8) p + μ (c + 6) p))) μ) : Cl E 0 M_X2_freeDay [.inr c, .inl p] μ Q := s_X2_freeDay hc ⟨hp, h⟩
set_option maxRecDepth 20000 in
theorem s_X2_waitsOn {E : Ex} {μ : Mem} {Q : Option Vl → Mem → Prop} {x1 x2 : Int} {c : Nat} (hc : coS c) (h : (RgC μ c) ∧ (0 ≤ x1 ∧ x1 < 6) ∧ ((cSeat (cv μ c) x1) = true → Q (some (.inl (bi false))) μ) ∧ ((cSeat (cv μ c) x1) = false → inR x2 ∧ inR (μ (c + 7) x1) ∧ (x2 ≥ (μ (c + 7) x1) → Q (some (.inl (bi false))) μ) ∧ (¬ x2 ≥ (μ (c + 7) x1) → Q (some (.inl (bi true))) μ))) : Cl E 1 M_X2_waitsOn [.inr c, .inl x1, .inl x2] μ Q := by
  show Gg E 1 M_X2_waitsOn 0 [some (.inr c), some (.inl x1), some (.inl x2)] [] μ Q
  refine r_aloadn (q := 1) DM_X2_waitsOn_0 rfl rfl ?_
  refine r_iloadn (q := 2) DM_X2_waitsOn_1 rfl rfl ?_
  have i1 := h.1
  replace h := h.2
  have i2 := h.1
  replace h := h.2
  refine r_callVi [.inl x1] (q := 5) DM_X2_waitsOn_2 rfl kM_X2_isSeated lRX2_88 (co0 hc) rfl rfl (by decide) (Nat.le_of_ble_eq_true rfl) rfl (k_X2_isSeated hc i1 i2 ⟨_, rfl, ?_⟩)
  refine r_bbne (q := 8) (t := 22) DM_X2_waitsOn_5 rfl (by decide) ⟨fun cc => ?_, fun cc => ?_⟩
  · replace h := h.1 cc
    refine r_iconst (q := 23) (n := 0) DM_X2_waitsOn_22 rfl ?_
    exact r_ret (v := some (.inl 0)) ⟨DM_X2_waitsOn_23, Or.inr ⟨rfl, Or.inl rfl⟩⟩ h
  · replace h := h.2 cc
    refine r_iloadn (q := 9) DM_X2_waitsOn_8 rfl rfl ?_
    refine r_aloadn (q := 10) DM_X2_waitsOn_9 rfl rfl ?_
    refine r_getR (q := 13) (r := c + 7) DM_X2_waitsOn_10 rfl fRX2_30 (co0 hc) rfl ?_
    refine r_iloadn (q := 14) DM_X2_waitsOn_13 rfl rfl ?_
    refine r_iald (q := 15) DM_X2_waitsOn_14 rfl (co7 hc) (by decide) ⟨i2, ?_⟩
    have i3 := h.1
    replace h := h.2
    have i4 := h.1
    replace h := h.2
    refine r_icge (q := 18) (t := 22) DM_X2_waitsOn_15 rfl (by decide) ⟨⟨i3, i4⟩, fun cc => ?_, fun cc => ?_⟩
    · replace h := h.1 cc
      refine r_iconst (q := 23) (n := 0) DM_X2_waitsOn_22 rfl ?_
      exact r_ret (v := some (.inl 0)) ⟨DM_X2_waitsOn_23, Or.inr ⟨rfl, Or.inl rfl⟩⟩ h
    · replace h := h.2 cc
      refine r_iconst (q := 19) (n := 1) DM_X2_waitsOn_18 rfl ?_
      refine r_goto (q := 23) DM_X2_waitsOn_19 (by decide) ?_
      exact r_ret (v := some (.inl 1)) ⟨DM_X2_waitsOn_23, Or.inr ⟨rfl, Or.inr rfl⟩⟩ h
theorem k_X2_waitsOn (hc : coS c) (hg : RgC μ c) (hp : 0 ≤ p ∧ p < 6) (hd : inR d) (h : Q (some (.inl (bi (cWait (cv μ c) p d)))) μ) : Cl E 1 M_X2_waitsOn [.inr c, .inl p, .inl d] μ Q := by
  have g := hg 7 p (by decide)
  refine s_X2_waitsOn hc ⟨hg, hp, fun cc => ?_, fun cc => ⟨hd, by omega, fun c2 => ?_, fun c2 => ?_⟩⟩
  · rw [cSeat, decide_eq_true_eq] at cc
    rwa [cWait, decide_eq_false (fun z => cc z.1)] at h
  · rwa [cWait, decide_eq_false (fun z => by have := z.2; simp only [cv] at this; omega)] at h
  · rw [cSeat, decide_eq_false_iff_not, Decidable.not_not] at cc
    rwa [cWait, decide_eq_true ⟨cc, by simp only [cv]; omega⟩] at h
set_option maxRecDepth 20000 in
theorem s_X2_servesOn {E : Ex} {μ : Mem} {Q : Option Vl → Mem → Prop} {x1 x2 : Int} {c : Nat} (hc : coS c) (h : (RgC μ c) ∧ (0 ≤ x1 ∧ x1 < 6) ∧ ((cSeat (cv μ c) x1) = false → Q (some (.inl (bi false))) μ) ∧ ((cSeat (cv μ c) x1) = true → inR x2 ∧ inR (μ (c + 8) x1 + μ (c + 6) x1) ∧ (x2 ≥ (μ (c + 8) x1 + μ (c + 6) x1) → Q (some (.inl (bi false))) μ) ∧ (¬ x2 ≥ (μ (c + 8) x1 + μ (c + 6) x1) → Q (some (.inl (bi true))) μ))) : Cl E 1 M_X2_servesOn [.inr c, .inl x1, .inl x2] μ Q := by
  show Gg E 1 M_X2_servesOn 0 [some (.inr c), some (.inl x1), some (.inl x2)] [] μ Q
  refine r_aloadn (q := 1) DM_X2_servesOn_0 rfl rfl ?_
  refine r_iloadn (q := 2) DM_X2_servesOn_1 rfl rfl ?_
  have i1 := h.1
  replace h := h.2
  have i2 := h.1
  replace h := h.2
  refine r_callVi [.inl x1] (q := 5) DM_X2_servesOn_2 rfl kM_X2_isSeated lRX2_88 (co0 hc) rfl rfl (by decide) (Nat.le_of_ble_eq_true rfl) rfl (k_X2_isSeated hc i1 i2 ⟨_, rfl, ?_⟩)
  refine r_bbeq (q := 8) (t := 21) DM_X2_servesOn_5 rfl (by decide) ⟨fun cc => ?_, fun cc => ?_⟩
  · replace h := h.1 cc
    refine r_iconst (q := 22) (n := 0) DM_X2_servesOn_21 rfl ?_
    exact r_ret (v := some (.inl 0)) ⟨DM_X2_servesOn_22, Or.inr ⟨rfl, Or.inl rfl⟩⟩ h
  · replace h := h.2 cc
    refine r_iloadn (q := 9) DM_X2_servesOn_8 rfl rfl ?_
    refine r_aloadn (q := 10) DM_X2_servesOn_9 rfl rfl ?_
    refine r_iloadn (q := 11) DM_X2_servesOn_10 rfl rfl ?_
    refine r_callVi [.inl x1] (q := 14) DM_X2_servesOn_11 rfl kM_X2_freeDay lRX2_92 (co0 hc) rfl rfl (by decide) (Nat.le_of_ble_eq_true rfl) rfl (k_X2_freeDay hc i2 ⟨_, rfl, ?_⟩)
    have i3 := h.1
    replace h := h.2
    have i4 := h.1
    replace h := h.2
    refine r_icge (q := 17) (t := 21) DM_X2_servesOn_14 rfl (by decide) ⟨⟨i3, i4⟩, fun cc => ?_, fun cc => ?_⟩
    · replace h := h.1 cc
      refine r_iconst (q := 22) (n := 0) DM_X2_servesOn_21 rfl ?_
      exact r_ret (v := some (.inl 0)) ⟨DM_X2_servesOn_22, Or.inr ⟨rfl, Or.inl rfl⟩⟩ h
    · replace h := h.2 cc
      refine r_iconst (q := 18) (n := 1) DM_X2_servesOn_17 rfl ?_
      refine r_goto (q := 22) DM_X2_servesOn_18 (by decide) ?_
      exact r_ret (v := some (.inl 1)) ⟨DM_X2_servesOn_22, Or.inr ⟨rfl, Or.inr rfl⟩⟩ h
theorem k_X2_servesOn (hc : coS c) (hg : RgC μ c) (hp : 0 ≤ p ∧ p < 6) (hd : inR d) (h : Q (some (.inl (bi (cServ (cv μ c) p d)))) μ) : Cl E 1 M_X2_servesOn [.inr c, .inl p, .inl d] μ Q := by
  have g := hg 8 p (by decide)
  have g2 := hg 6 p (by decide)
  refine s_X2_servesOn hc ⟨hg, hp, fun cc => ?_, fun cc => ⟨hd, by omega, fun c2 => ?_, fun c2 => ?_⟩⟩
  · rw [cSeat, decide_eq_false_iff_not, Decidable.not_not] at cc
    rwa [cServ, decide_eq_false (fun z => z.1 cc)] at h
  · rwa [cServ, decide_eq_false (fun z => by have := z.2; simp only [cv] at this; omega)] at h
  · rw [cSeat, decide_eq_true_eq] at cc
    rwa [cServ, decide_eq_true ⟨cc, by simp only [cv]; omega⟩] at h
set_option maxRecDepth 20000 in
theorem s_X2_stateOf {E : Ex} {μ : Mem} {Q : Option Vl → Mem → Prop} {x1 : Int} {c : Nat} (hc : coS c) (h : (RgC μ c) ∧ (0 ≤ x1 ∧ x1 < 6) ∧ ((cSeat (cv μ c) x1) = false → inR (μ c 4) ∧ ((cWait (cv μ c) x1 (μ c 4)) = false → Q (some (.inl 3)) μ) ∧ ((cWait (cv μ c) x1 (μ c 4)) = true → Q (some (.inl 0)) μ)) ∧ ((cSeat (cv μ c) x1) = true → inR (μ c 4) ∧ ((cServ (cv μ c) x1 (μ c 4)) = false → Q (some (.inl 2)) μ) ∧ ((cServ (cv μ c) x1 (μ c 4)) = true → Q (some (.inl 1)) μ))) : Cl E 2 M_X2_stateOf [.inr c, .inl x1] μ Q := by
  show Gg E 2 M_X2_stateOf 0 [some (.inr c), some (.inl x1)] [] μ Q
  refine r_aloadn (q := 1) DM_X2_stateOf_0 rfl rfl ?_
  refine r_iloadn (q := 2) DM_X2_stateOf_1 rfl rfl ?_
  have i1 := h.1
  replace h := h.2
  have i2 := h.1
  replace h := h.2
  refine r_callVi [.inl x1] (q := 5) DM_X2_stateOf_2 rfl kM_X2_isSeated lRX2_88 (co0 hc) rfl rfl (by decide) (Nat.le_of_ble_eq_true rfl) rfl (k_X2_isSeated hc i1 i2 ⟨_, rfl, ?_⟩)
  refine r_bbeq (q := 8) (t := 26) DM_X2_stateOf_5 rfl (by decide) ⟨fun cc => ?_, fun cc => ?_⟩
  · replace h := h.1 cc
    refine r_aloadn (q := 27) DM_X2_stateOf_26 rfl rfl ?_
    refine r_iloadn (q := 28) DM_X2_stateOf_27 rfl rfl ?_
    refine r_aloadn (q := 29) DM_X2_stateOf_28 rfl rfl ?_
    refine v_getI (q := 32) (ji := 4) DM_X2_stateOf_29 rfl fRX2_53 (co0 hc) rfl rfl ?_
    have i3 := h.1
    replace h := h.2
    refine r_callVi [.inl x1, .inl (μ c 4)] (q := 35) DM_X2_stateOf_32 rfl kM_X2_waitsOn lRX2_100 (co0 hc) rfl rfl (by decide) (Nat.le_of_ble_eq_true rfl) rfl (k_X2_waitsOn hc i1 i2 i3 ⟨_, rfl, ?_⟩)
    refine r_bbeq (q := 38) (t := 42) DM_X2_stateOf_35 rfl (by decide) ⟨fun cc => ?_, fun cc => ?_⟩
    · replace h := h.1 cc
      refine r_iconst (q := 43) (n := 3) DM_X2_stateOf_42 rfl ?_
      exact r_ret (v := some (.inl 3)) ⟨DM_X2_stateOf_43, Or.inl rfl⟩ h
    · replace h := h.2 cc
      refine r_iconst (q := 39) (n := 0) DM_X2_stateOf_38 rfl ?_
      refine r_goto (q := 43) DM_X2_stateOf_39 (by decide) ?_
      exact r_ret (v := some (.inl 0)) ⟨DM_X2_stateOf_43, Or.inl rfl⟩ h
  · replace h := h.2 cc
    refine r_aloadn (q := 9) DM_X2_stateOf_8 rfl rfl ?_
    refine r_iloadn (q := 10) DM_X2_stateOf_9 rfl rfl ?_
    refine r_aloadn (q := 11) DM_X2_stateOf_10 rfl rfl ?_
    refine v_getI (q := 14) (ji := 4) DM_X2_stateOf_11 rfl fRX2_53 (co0 hc) rfl rfl ?_
    have i4 := h.1
    replace h := h.2
    refine r_callVi [.inl x1, .inl (μ c 4)] (q := 17) DM_X2_stateOf_14 rfl kM_X2_servesOn lRX2_96 (co0 hc) rfl rfl (by decide) (Nat.le_of_ble_eq_true rfl) rfl (k_X2_servesOn hc i1 i2 i4 ⟨_, rfl, ?_⟩)
    refine r_bbeq (q := 20) (t := 24) DM_X2_stateOf_17 rfl (by decide) ⟨fun cc => ?_, fun cc => ?_⟩
    · replace h := h.1 cc
      refine r_iconst (q := 25) (n := 2) DM_X2_stateOf_24 rfl ?_
      exact r_ret (v := some (.inl 2)) ⟨DM_X2_stateOf_25, Or.inl rfl⟩ h
    · replace h := h.2 cc
      refine r_iconst (q := 21) (n := 1) DM_X2_stateOf_20 rfl ?_
      refine r_goto (q := 25) DM_X2_stateOf_21 (by decide) ?_
      exact r_ret (v := some (.inl 1)) ⟨DM_X2_stateOf_25, Or.inl rfl⟩ h
theorem k_X2_stateOf (hc : coS c) (hg : RgC μ c) (hp : 0 ≤ p ∧ p < 6) (h : Q (some (.inl (cState (cv μ c) p (μ c 4)))) μ) : Cl E 2 M_X2_stateOf [.inr c, .inl p] μ Q := by
  have g := hg.f 4
  refine s_X2_stateOf hc ⟨hg, hp, fun c1 => ⟨by omega, fun c2 => ?_, fun c2 => ?_⟩, fun c1 => ⟨by omega, fun c2 => ?_, fun c2 => ?_⟩⟩ <;>
    simp only [cSeat, cWait, cServ, decide_eq_true_eq, decide_eq_false_iff_not, Decidable.not_not] at c1 c2 <;> simp only [cState] at h
  · rwa [if_pos c1, if_neg (fun z => c2 ⟨c1, z⟩)] at h
  · rwa [if_pos c1, if_pos c2.2] at h
  · rwa [if_neg c1, if_neg (fun z => c2 ⟨c1, z⟩)] at h
  · rwa [if_neg c1, if_pos c2.2] at h
set_option maxRecDepth 20000 in
theorem s_X2_letterOf {E : Ex} {μ : Mem} {Q : Option Vl → Mem → Prop} {x1 x2 : Int} {c : Nat} (hc : coS c) (h : (0 ≤ ((x1 * 4) + x2) ∧ ((x1 * 4) + x2) < 24) ∧ Q (some (.inl (μ (c + 5) ((x1 * 4) + x2)))) μ) : Cl E 0 M_X2_letterOf [.inr c, .inl x1, .inl x2] μ Q := by
  show Gg E 0 M_X2_letterOf 0 [some (.inr c), some (.inl x1), some (.inl x2)] [] μ Q
  refine r_aloadn (q := 1) DM_X2_letterOf_0 rfl rfl ?_
  refine r_getR (q := 4) (r := c + 5) DM_X2_letterOf_1 rfl fRX2_24 (co0 hc) rfl ?_
  refine r_iloadn (q := 5) DM_X2_letterOf_4 rfl rfl ?_
  refine r_iconst (q := 6) (n := 4) DM_X2_letterOf_5 rfl ?_
  refine r_imul (q := 7) DM_X2_letterOf_6 rfl ?_
  refine r_iloadn (q := 8) DM_X2_letterOf_7 rfl rfl ?_
  refine r_iadd (q := 9) DM_X2_letterOf_8 rfl ?_
  refine r_iald (q := 10) DM_X2_letterOf_9 rfl (co5 hc) (by decide) ⟨h.1, ?_⟩
  have i1 := h.1
  replace h := h.2
  exact r_ret (v := some (.inl (μ (c + 5) ((x1 * 4) + x2)))) ⟨DM_X2_letterOf_10, Or.inl rfl⟩ h
theorem k_X2_letterOf (hc : coS c) (hb : 0 ≤ p * 4 + i ∧ p * 4 + i < 24) (h : Q (some (.inl (μ (c + 5) (p * 4 + i)))) μ) : Cl E 0 M_X2_letterOf [.inr c, .inl p, .inl i] μ Q := s_X2_letterOf hc ⟨hb, h⟩
set_option maxRecDepth 20000 in
theorem s_X2_putLetter {E : Ex} {μ : Mem} {Q : Option Vl → Mem → Prop} {x1 x2 x3 : Int} {c : Nat} (hc : coS c) (h : (0 ≤ ((x1 * 4) + x2) ∧ ((x1 * 4) + x2) < 24) ∧ ∀ μ1 : Mem, μ1 = up μ (c + 5) ((x1 * 4) + x2) x3 → Q none μ1) : Cl E 0 M_X2_putLetter [.inr c, .inl x1, .inl x2, .inl x3] μ Q := by
  show Gg E 0 M_X2_putLetter 0 [some (.inr c), some (.inl x1), some (.inl x2), some (.inl x3)] [] μ Q
  refine r_aloadn (q := 1) DM_X2_putLetter_0 rfl rfl ?_
  refine r_getR (q := 4) (r := c + 5) DM_X2_putLetter_1 rfl fRX2_24 (co0 hc) rfl ?_
  refine r_iloadn (q := 5) DM_X2_putLetter_4 rfl rfl ?_
  refine r_iconst (q := 6) (n := 4) DM_X2_putLetter_5 rfl ?_
  refine r_imul (q := 7) DM_X2_putLetter_6 rfl ?_
  refine r_iloadn (q := 8) DM_X2_putLetter_7 rfl rfl ?_
  refine r_iadd (q := 9) DM_X2_putLetter_8 rfl ?_
  refine r_iloadn (q := 10) DM_X2_putLetter_9 rfl rfl ?_
  refine v_iast (q := 11) DM_X2_putLetter_10 rfl (co5 hc) (by decide) ⟨h.1, fun μ1 e1 => ?_⟩
  have i2 := h.1
  replace h := h.2 μ1 e1
  exact r_ret (v := none) ⟨DM_X2_putLetter_11, rfl⟩ h
theorem k_X2_putLetter (hc : coS c) (hb : 0 ≤ p * 4 + i ∧ p * 4 + i < 24) (h : ∀ μ1 : Mem, μ1 = up μ (c + 5) (p * 4 + i) l → Q none μ1) : Cl E 0 M_X2_putLetter [.inr c, .inl p, .inl i, .inl l] μ Q := s_X2_putLetter hc ⟨hb, h⟩
set_option maxRecDepth 20000 in
theorem s_X2_turnOn {E : Ex} {μ : Mem} {Q : Option Vl → Mem → Prop} {x1 x2 : Int} {c : Nat} (hc : coS c) (h : inR (μ c 3) ∧ ((μ c 3) ≠ 0 → (inR (μ c 3) ∧ (μ c 3) ≠ 0) ∧ Q (some (.inl (x2 + (jdiv x1 (μ c 3))))) μ) ∧ ((μ c 3) = 0 → Q (some (.inl x2)) μ)) : Cl E 0 M_X2_turnOn [.inr c, .inl x1, .inl x2] μ Q := by
  show Gg E 0 M_X2_turnOn 0 [some (.inr c), some (.inl x1), some (.inl x2)] [] μ Q
  refine r_aloadn (q := 1) DM_X2_turnOn_0 rfl rfl ?_
  refine v_getI (q := 4) (ji := 3) DM_X2_turnOn_1 rfl fRX2_50 (co0 hc) rfl rfl ?_
  have i1 := h.1
  replace h := h.2
  refine r_ifne (q := 7) (t := 11) DM_X2_turnOn_4 rfl (by decide) ⟨i1, fun cc => ?_, fun cc => ?_⟩
  · replace h := h.1 cc
    refine r_iloadn (q := 12) DM_X2_turnOn_11 rfl rfl ?_
    refine r_iloadn (q := 13) DM_X2_turnOn_12 rfl rfl ?_
    refine r_aloadn (q := 14) DM_X2_turnOn_13 rfl rfl ?_
    refine v_getI (q := 17) (ji := 3) DM_X2_turnOn_14 rfl fRX2_50 (co0 hc) rfl rfl ?_
    refine r_idiv (q := 18) DM_X2_turnOn_17 rfl h.1 ?_
    replace h := h.2
    refine r_iadd (q := 19) DM_X2_turnOn_18 rfl ?_
    exact r_ret (v := some (.inl (x2 + (jdiv x1 (μ c 3))))) ⟨DM_X2_turnOn_19, Or.inl rfl⟩ h
  · replace h := h.2 cc
    refine r_iloadn (q := 8) DM_X2_turnOn_7 rfl rfl ?_
    refine r_goto (q := 19) DM_X2_turnOn_8 (by decide) ?_
    exact r_ret (v := some (.inl x2)) ⟨DM_X2_turnOn_19, Or.inl rfl⟩ h
theorem k_X2_turnOn (hc : coS c) (ht : 0 ≤ μ c 3 ∧ μ c 3 ≤ 2000000) (hd : 0 ≤ d ∧ d < 2147483648) (h : Q (some (.inl (cTurn (cv μ c) d b))) μ) : Cl E 0 M_X2_turnOn [.inr c, .inl d, .inl b] μ Q := by
  refine s_X2_turnOn hc ⟨by omega, fun cc => ⟨⟨by omega, cc⟩, ?_⟩, fun cc => ?_⟩
  · rw [jdiv_pos hd.1 hd.2 (by omega) (by omega)]
    rwa [cTurn, if_neg (show ¬ cv μ c 0 3 = 0 from cc)] at h
  · rwa [cTurn, if_pos (show cv μ c 0 3 = 0 by simp only [cv, Nat.add_zero]; omega)] at h
set_option maxRecDepth 20000 in
theorem s_X2_letterInOrder {E : Ex} {μ : Mem} {Q : Option Vl → Mem → Prop} {x1 x2 : Int} {c : Nat} (hc : coS c) (h : (0 ≤ (jrem (x1 + x2) 8) ∧ (jrem (x1 + x2) 8) < 8) ∧ Q (some (.inl (μ (c + 1) (jrem (x1 + x2) 8)))) μ) : Cl E 0 M_X2_letterInOrder [.inr c, .inl x1, .inl x2] μ Q := by
  show Gg E 0 M_X2_letterInOrder 0 [some (.inr c), some (.inl x1), some (.inl x2)] [] μ Q
  refine r_aloadn (q := 1) DM_X2_letterInOrder_0 rfl rfl ?_
  refine r_getR (q := 4) (r := c + 1) DM_X2_letterInOrder_1 rfl fRX2_9 (co0 hc) rfl ?_
  refine r_iloadn (q := 5) DM_X2_letterInOrder_4 rfl rfl ?_
  refine r_iloadn (q := 6) DM_X2_letterInOrder_5 rfl rfl ?_
  refine r_iadd (q := 7) DM_X2_letterInOrder_6 rfl ?_
  refine r_bipush (q := 9) (n := 8) DM_X2_letterInOrder_7 rfl (by decide) ?_
  refine r_irem (q := 10) DM_X2_letterInOrder_9 rfl (by decide) ?_
  refine r_iald (q := 11) DM_X2_letterInOrder_10 rfl (co1 hc) (by decide) ⟨h.1, ?_⟩
  have i1 := h.1
  replace h := h.2
  exact r_ret (v := some (.inl (μ (c + 1) (jrem (x1 + x2) 8)))) ⟨DM_X2_letterInOrder_11, Or.inl rfl⟩ h
theorem k_X2_letterInOrder (hc : coS c) (hd : 0 ≤ p + t ∧ p + t < 2147483648) (h : Q (some (.inl (μ (c + 1) ((p + t) % 8)))) μ) : Cl E 0 M_X2_letterInOrder [.inr c, .inl p, .inl t] μ Q := by
  refine s_X2_letterInOrder hc ?_
  rw [jrem_pos hd.1 hd.2 (by decide) (by decide)]
  exact ⟨by omega, h⟩
set_option maxRecDepth 20000 in
theorem s_X2_placeInOrder {E : Ex} {μ : Mem} {Q : Option Vl → Mem → Prop} {x1 x2 : Int} {c : Nat} (hc : coS c) (h : (0 ≤ x1 ∧ x1 < 8) ∧ Q (some (.inl (jand ((μ (c + 2) x1) - x2) 7))) μ) : Cl E 0 M_X2_placeInOrder [.inr c, .inl x1, .inl x2] μ Q := by
  show Gg E 0 M_X2_placeInOrder 0 [some (.inr c), some (.inl x1), some (.inl x2)] [] μ Q
  refine r_aloadn (q := 1) DM_X2_placeInOrder_0 rfl rfl ?_
  refine r_getR (q := 4) (r := c + 2) DM_X2_placeInOrder_1 rfl fRX2_15 (co0 hc) rfl ?_
  refine r_iloadn (q := 5) DM_X2_placeInOrder_4 rfl rfl ?_
  refine r_iald (q := 6) DM_X2_placeInOrder_5 rfl (co2 hc) (by decide) ⟨h.1, ?_⟩
  have i1 := h.1
  replace h := h.2
  refine r_iloadn (q := 7) DM_X2_placeInOrder_6 rfl rfl ?_
  refine r_isub (q := 8) DM_X2_placeInOrder_7 rfl ?_
  refine r_bipush (q := 10) (n := 7) DM_X2_placeInOrder_8 rfl (by decide) ?_
  refine r_iand (q := 11) DM_X2_placeInOrder_10 rfl ?_
  exact r_ret (v := some (.inl (jand ((μ (c + 2) x1) - x2) 7))) ⟨DM_X2_placeInOrder_11, Or.inl rfl⟩ h
theorem k_X2_placeInOrder (hc : coS c) (hl : 0 ≤ l ∧ l < 8) (h : Q (some (.inl (cPlace (cv μ c) l t))) μ) : Cl E 0 M_X2_placeInOrder [.inr c, .inl l, .inl t] μ Q := by
  refine s_X2_placeInOrder hc ⟨hl, ?_⟩
  rwa [jand7]
set_option maxRecDepth 20000 in
theorem s_X2_letterAsRead {E : Ex} {μ : Mem} {Q : Option Vl → Mem → Prop} {x1 x2 : Int} {c : Nat} (hc : coS c) (h : (0 ≤ x1 ∧ x1 < 6) ∧ inR (μ (c + 3) x1) ∧ ((μ (c + 3) x1) ≠ 2 → (0 ≤ ((x1 * 4) + x2) ∧ ((x1 * 4) + x2) < 24) ∧ Q (some (.inl (μ (c + 5) ((x1 * 4) + x2)))) μ) ∧ ((μ (c + 3) x1) = 2 → (0 ≤ ((x1 * 4) + (((μ (c + 4) x1) - 1) - x2)) ∧ ((x1 * 4) + (((μ (c + 4) x1) - 1) - x2)) < 24) ∧ Q (some (.inl (μ (c + 5) ((x1 * 4) + (((μ (c + 4) x1) - 1) - x2))))) μ)) : Cl E 0 M_X2_letterAsRead [.inr c, .inl x1, .inl x2] μ Q := by
  show Gg E 0 M_X2_letterAsRead 0 [some (.inr c), some (.inl x1), some (.inl x2)] [] μ Q
  refine r_aloadn (q := 1) DM_X2_letterAsRead_0 rfl rfl ?_
  refine r_getR (q := 4) (r := c + 5) DM_X2_letterAsRead_1 rfl fRX2_24 (co0 hc) rfl ?_
  refine r_iloadn (q := 5) DM_X2_letterAsRead_4 rfl rfl ?_
  refine r_iconst (q := 6) (n := 4) DM_X2_letterAsRead_5 rfl ?_
  refine r_imul (q := 7) DM_X2_letterAsRead_6 rfl ?_
  refine r_aloadn (q := 8) DM_X2_letterAsRead_7 rfl rfl ?_
  refine r_getR (q := 11) (r := c + 3) DM_X2_letterAsRead_8 rfl fRX2_18 (co0 hc) rfl ?_
  refine r_iloadn (q := 12) DM_X2_letterAsRead_11 rfl rfl ?_
  refine r_iald (q := 13) DM_X2_letterAsRead_12 rfl (co3 hc) (by decide) ⟨h.1, ?_⟩
  have i1 := h.1
  replace h := h.2
  refine r_iconst (q := 14) (n := 2) DM_X2_letterAsRead_13 rfl ?_
  have i2 := h.1
  replace h := h.2
  refine r_icne (q := 17) (t := 30) DM_X2_letterAsRead_14 rfl (by decide) ⟨⟨i2, (by decide)⟩, fun cc => ?_, fun cc => ?_⟩
  · replace h := h.1 cc
    refine r_iloadn (q := 31) DM_X2_letterAsRead_30 rfl rfl ?_
    refine r_iadd (q := 32) DM_X2_letterAsRead_31 rfl ?_
    refine r_iald (q := 33) DM_X2_letterAsRead_32 rfl (co5 hc) (by decide) ⟨h.1, ?_⟩
    have i3 := h.1
    replace h := h.2
    exact r_ret (v := some (.inl (μ (c + 5) ((x1 * 4) + x2)))) ⟨DM_X2_letterAsRead_33, Or.inl rfl⟩ h
  · replace h := h.2 cc
    refine r_aloadn (q := 18) DM_X2_letterAsRead_17 rfl rfl ?_
    refine r_getR (q := 21) (r := c + 4) DM_X2_letterAsRead_18 rfl fRX2_21 (co0 hc) rfl ?_
    refine r_iloadn (q := 22) DM_X2_letterAsRead_21 rfl rfl ?_
    refine r_iald (q := 23) DM_X2_letterAsRead_22 rfl (co4 hc) (by decide) ⟨i1, ?_⟩
    refine r_iconst (q := 24) (n := 1) DM_X2_letterAsRead_23 rfl ?_
    refine r_isub (q := 25) DM_X2_letterAsRead_24 rfl ?_
    refine r_iloadn (q := 26) DM_X2_letterAsRead_25 rfl rfl ?_
    refine r_isub (q := 27) DM_X2_letterAsRead_26 rfl ?_
    refine r_goto (q := 31) DM_X2_letterAsRead_27 (by decide) ?_
    refine r_iadd (q := 32) DM_X2_letterAsRead_31 rfl ?_
    refine r_iald (q := 33) DM_X2_letterAsRead_32 rfl (co5 hc) (by decide) ⟨h.1, ?_⟩
    have i4 := h.1
    replace h := h.2
    exact r_ret (v := some (.inl (μ (c + 5) ((x1 * 4) + (((μ (c + 4) x1) - 1) - x2))))) ⟨DM_X2_letterAsRead_33, Or.inl rfl⟩ h
theorem k_X2_letterAsRead (hc : coS c) (hg : RgC μ c) (hp : 0 ≤ p ∧ p < 6) (hi : 0 ≤ i ∧ i < μ (c + 4) p) (hl : μ (c + 4) p ≤ 4) (h : Q (some (.inl (cRead (cv μ c) p i))) μ) : Cl E 0 M_X2_letterAsRead [.inr c, .inl p, .inl i] μ Q := by
  have g := hg 3 p (by decide)
  refine s_X2_letterAsRead hc ⟨hp, by omega, fun cc => ?_, fun cc => ?_⟩
  · refine ⟨by omega, ?_⟩
    rwa [cRead, if_neg (show ¬ cv μ c 3 p = 2 from cc)] at h
  · refine ⟨by omega, ?_⟩
    rwa [cRead, if_pos (show cv μ c 3 p = 2 from cc)] at h
end C21

/-! Renaming: the least letters to change. -/
set_option maxRecDepth 20000 in
theorem s_X5_canBeBehind {E : Ex} {μ : Mem} {Q : Option Vl → Mem → Prop} {x1 x2 x3 : Int}  (h : (0 ≤ 7 + x3 ∧ 7 + x3 < 2147483648) ∧ Gg E 3 M_X5_canBeBehind 15 [some (.inr 30), some (.inl x1), some (.inl x2), some (.inl x3), some (.inl (μ (31 + 1) ((7 + x3) % 8))), some (.inl 0)] [] μ Q) : Cl E 3 M_X5_canBeBehind [.inr 30, .inl x1, .inl x2, .inl x3] μ Q := by
  show Gg E 3 M_X5_canBeBehind 0 [some (.inr 30), some (.inl x1), some (.inl x2), some (.inl x3), none, none] [] μ Q
  refine r_aloadn (q := 1) DM_X5_canBeBehind_0 rfl rfl ?_
  refine r_getR (q := 4) (r := 31) DM_X5_canBeBehind_1 rfl fRX5_12 sh_30 rfl ?_
  refine r_bipush (q := 6) (n := 7) DM_X5_canBeBehind_4 rfl (by decide) ?_
  refine r_iloadn (q := 7) DM_X5_canBeBehind_6 rfl rfl ?_
  have i1 := h.1
  replace h := h.2
  refine r_callVi [.inl 7, .inl x3] (q := 10) DM_X5_canBeBehind_7 rfl kM_X2_letterInOrder lRX5_46 (co0 cK_31) rfl rfl (by decide) (Nat.le_of_ble_eq_true rfl) rfl (k_X2_letterInOrder cK_31 i1 ⟨_, rfl, ?_⟩)
  refine v_istore (q := 12) (ls' := [some (.inr 30), some (.inl x1), some (.inl x2), some (.inl x3), some (.inl (μ (31 + 1) ((7 + x3) % 8))), none]) DM_X5_canBeBehind_10 rfl (by decide) rfl ?_
  refine r_iconst (q := 13) (n := 0) DM_X5_canBeBehind_12 rfl ?_
  refine v_istore (q := 15) (ls' := [some (.inr 30), some (.inl x1), some (.inl x2), some (.inl x3), some (.inl (μ (31 + 1) ((7 + x3) % 8))), some (.inl 0)]) DM_X5_canBeBehind_13 rfl (by decide) rfl ?_
  exact h
set_option maxRecDepth 20000 in
theorem s_X5_canBeBehind_15 {E : Ex} {μ : Mem} {Q : Option Vl → Mem → Prop} {x1 x2 x3 x4 x5 : Int}  (h : (0 ≤ x2 ∧ x2 < 6) ∧ inR x5 ∧ inR (μ (31 + 4) x2) ∧ (x5 ≥ (μ (31 + 4) x2) → (RgC μ 31) ∧ (RoOk E) ∧ (0 ≤ x1 ∧ x1 < 6) ∧ (pOK (cv μ 31) x1) ∧ (pOK (cv μ 31) x2) ∧ Q (some (.inl (bi (cBef (cv μ 31) x1 x2 x3)))) μ) ∧ (¬ x5 ≥ (μ (31 + 4) x2) → (0 ≤ x2 * 4 + x5 ∧ x2 * 4 + x5 < 24) ∧ ∀ μ10 : Mem, μ10 = up μ (31 + 5) (x2 * 4 + x5) x4 → Gg E 3 M_X5_canBeBehind 15 [some (.inr 30), some (.inl x1), some (.inl x2), some (.inl x3), some (.inl x4), some (.inl (x5 + 1))] [] μ10 Q)) : Gg E 3 M_X5_canBeBehind 15 [some (.inr 30), some (.inl x1), some (.inl x2), some (.inl x3), some (.inl x4), some (.inl x5)] [] μ Q := by
  refine r_iload (q := 17) DM_X5_canBeBehind_15 rfl rfl ?_
  refine r_aloadn (q := 18) DM_X5_canBeBehind_17 rfl rfl ?_
  refine r_getR (q := 21) (r := 31) DM_X5_canBeBehind_18 rfl fRX5_12 sh_30 rfl ?_
  refine r_getR (q := 24) (r := 31 + 4) DM_X5_canBeBehind_21 rfl fRX5_38 (co0 cK_31) rfl ?_
  refine r_iloadn (q := 25) DM_X5_canBeBehind_24 rfl rfl ?_
  refine r_iald (q := 26) DM_X5_canBeBehind_25 rfl (co4 cK_31) (by decide) ⟨h.1, ?_⟩
  have i1 := h.1
  replace h := h.2
  have i2 := h.1
  replace h := h.2
  have i3 := h.1
  replace h := h.2
  refine r_icge (q := 29) (t := 47) DM_X5_canBeBehind_26 rfl (by decide) ⟨⟨i2, i3⟩, fun cc => ?_, fun cc => ?_⟩
  · replace h := h.1 cc
    refine r_aloadn (q := 48) DM_X5_canBeBehind_47 rfl rfl ?_
    refine r_getR (q := 51) (r := 31) DM_X5_canBeBehind_48 rfl fRX5_12 sh_30 rfl ?_
    refine r_iloadn (q := 52) DM_X5_canBeBehind_51 rfl rfl ?_
    refine r_iloadn (q := 53) DM_X5_canBeBehind_52 rfl rfl ?_
    refine r_iloadn (q := 54) DM_X5_canBeBehind_53 rfl rfl ?_
    have i4 := h.1
    replace h := h.2
    have i5 := h.1
    replace h := h.2
    have i6 := h.1
    replace h := h.2
    have i7 := h.1
    replace h := h.2
    have i8 := h.1
    replace h := h.2
    refine r_callVi [.inl x1, .inl x2, .inl x3] (q := 57) DM_X5_canBeBehind_54 rfl kM_X2_isBefore lRX5_53 (co0 cK_31) rfl rfl (by decide) (Nat.le_of_ble_eq_true rfl) rfl (k_X2_isBefore cK_31 i4 i5 i6 i1 i7 i8 ⟨_, rfl, ?_⟩)
    exact r_ret (v := some (.inl (bi (cBef (cv μ 31) x1 x2 x3)))) ⟨DM_X5_canBeBehind_57, Or.inr ⟨rfl, bi_01 _⟩⟩ h
  · replace h := h.2 cc
    refine r_aloadn (q := 30) DM_X5_canBeBehind_29 rfl rfl ?_
    refine r_getR (q := 33) (r := 31) DM_X5_canBeBehind_30 rfl fRX5_12 sh_30 rfl ?_
    refine r_iloadn (q := 34) DM_X5_canBeBehind_33 rfl rfl ?_
    refine r_iload (q := 36) DM_X5_canBeBehind_34 rfl rfl ?_
    refine r_iload (q := 38) DM_X5_canBeBehind_36 rfl rfl ?_
    have i9 := h.1
    replace h := h.2
    refine r_callVv [.inl x2, .inl x5, .inl x4] (q := 41) DM_X5_canBeBehind_38 rfl kM_X2_putLetter lRX5_49 (co0 cK_31) rfl rfl (by decide) (Nat.le_of_ble_eq_true rfl) rfl (k_X2_putLetter cK_31 i9 (fun μ10 e10 => ⟨rfl, ?_⟩))
    replace h := h μ10 e10
    refine v_iinc (q := 44) (ls' := [some (.inr 30), some (.inl x1), some (.inl x2), some (.inl x3), some (.inl x4), some (.inl (x5 + 1))]) DM_X5_canBeBehind_41 rfl rfl (by decide) rfl ?_
    refine r_goto (q := 15) DM_X5_canBeBehind_44 (by decide) ?_
    exact h
set_option maxRecDepth 20000 in
theorem s_X5_findFewest {E : Ex} {μ : Mem} {Q : Option Vl → Mem → Prop} {x2 : Int}  (h : (31 + 10 ≤ 4 ∨ 4 + 10 ≤ 31) ∧ (μ 4 0 = 0 ∨ μ 4 0 = 1) ∧ ∀ μ3 : Mem, chC μ μ3 31 (tkC (cv μ 31) (cv μ 4)) → (0 ≤ μ3 4 3 ∧ μ3 4 3 ≤ 2000000) ∧ (0 ≤ (μ3 4 4) ∧ (μ3 4 4) < 2147483648) ∧ (RgC μ3 4) ∧ (RoOk E) ∧ (VC (cv μ3 4)) ∧ inR x2 ∧ inR (cLast (cv μ3 4) x2 (cTurn (cv μ3 4) (μ3 4 4) 0)) ∧ ((cLast (cv μ3 4) x2 (cTurn (cv μ3 4) (μ3 4 4) 0)) ≠ (-1) → Cl E 3 M_X5_canBeBehind [.inr 30, .inl (cLast (cv μ3 4) x2 (cTurn (cv μ3 4) (μ3 4 4) 0)), .inl x2, .inl (cTurn (cv μ3 4) (μ3 4 4) 0)] μ3 (fun vv μ11 => ∃ v12, vv = some (.inl (bi v12)) ∧ (v12 = true → Gg E 21 M_X5_findFewest 51 [some (.inr 30), some (.inr 4), some (.inl x2), some (.inl (cTurn (cv μ3 4) (μ3 4 4) 0)), some (.inl (cLast (cv μ3 4) x2 (cTurn (cv μ3 4) (μ3 4 4) 0))), some (.inl 0)] [] μ11 Q) ∧ (v12 = false → Q (some (.inl (-1000000))) μ11))) ∧ ((cLast (cv μ3 4) x2 (cTurn (cv μ3 4) (μ3 4 4) 0)) = (-1) → Q (some (.inl 0)) μ3)) : Cl E 21 M_X5_findFewest [.inr 30, .inr 4, .inl x2] μ Q := by
  show Gg E 21 M_X5_findFewest 0 [some (.inr 30), some (.inr 4), some (.inl x2), none, none, none] [] μ Q
  refine r_aloadn (q := 1) DM_X5_findFewest_0 rfl rfl ?_
  refine r_getR (q := 4) (r := 31) DM_X5_findFewest_1 rfl fRX5_12 sh_30 rfl ?_
  refine r_aloadn (q := 5) DM_X5_findFewest_4 rfl rfl ?_
  have i1 := h.1
  replace h := h.2
  have i2 := h.1
  replace h := h.2
  refine r_callVv [.inr 4] (q := 8) DM_X5_findFewest_5 rfl kM_X2_takeFrom lRX5_18 (co0 cK_31) rfl rfl (by decide) (Nat.le_of_ble_eq_true rfl) rfl (k_X2_takeFrom cK_31 cK_4 i1 i2 (fun μ3 e3 => ⟨rfl, ?_⟩))
  replace h := h μ3 e3
  refine r_aloadn (q := 9) DM_X5_findFewest_8 rfl rfl ?_
  refine r_aloadn (q := 10) DM_X5_findFewest_9 rfl rfl ?_
  refine v_getI (q := 13) (ji := 4) DM_X5_findFewest_10 rfl fRX5_22 (co0 cK_4) rfl rfl ?_
  refine r_iconst (q := 14) (n := 0) DM_X5_findFewest_13 rfl ?_
  have i4 := h.1
  replace h := h.2
  have i5 := h.1
  replace h := h.2
  refine r_callVi [.inl (μ3 4 4), .inl 0] (q := 17) DM_X5_findFewest_14 rfl kM_X2_turnOn lRX5_26 (co0 cK_4) rfl rfl (by decide) (Nat.le_of_ble_eq_true rfl) rfl (k_X2_turnOn cK_4 i4 i5 ⟨_, rfl, ?_⟩)
  refine v_istoren (q := 18) (ls' := [some (.inr 30), some (.inr 4), some (.inl x2), some (.inl (cTurn (cv μ3 4) (μ3 4 4) 0)), none, none]) DM_X5_findFewest_17 rfl (by decide) rfl ?_
  refine r_aloadn (q := 19) DM_X5_findFewest_18 rfl rfl ?_
  refine r_iloadn (q := 20) DM_X5_findFewest_19 rfl rfl ?_
  refine r_iloadn (q := 21) DM_X5_findFewest_20 rfl rfl ?_
  have i6 := h.1
  replace h := h.2
  have i7 := h.1
  replace h := h.2
  have i8 := h.1
  replace h := h.2
  have i9 := h.1
  replace h := h.2
  refine r_callVi [.inl x2, .inl (cTurn (cv μ3 4) (μ3 4 4) 0)] (q := 24) DM_X5_findFewest_21 rfl kM_X2_lastWaitingBut lRX5_30 (co0 cK_4) rfl rfl (by decide) (Nat.le_of_ble_eq_true rfl) rfl (k_X2_lastWaitingBut cK_4 i6 i7 i8 i9 ⟨_, rfl, ?_⟩)
  refine v_istore (q := 26) (ls' := [some (.inr 30), some (.inr 4), some (.inl x2), some (.inl (cTurn (cv μ3 4) (μ3 4 4) 0)), some (.inl (cLast (cv μ3 4) x2 (cTurn (cv μ3 4) (μ3 4 4) 0))), none]) DM_X5_findFewest_24 rfl (by decide) rfl ?_
  refine r_iload (q := 28) DM_X5_findFewest_26 rfl rfl ?_
  refine r_iconst (q := 29) (n := (-1)) DM_X5_findFewest_28 rfl ?_
  have i10 := h.1
  replace h := h.2
  refine r_icne (q := 32) (t := 34) DM_X5_findFewest_29 rfl (by decide) ⟨⟨i10, (by decide)⟩, fun cc => ?_, fun cc => ?_⟩
  · replace h := h.1 cc
    refine r_aloadn (q := 35) DM_X5_findFewest_34 rfl rfl ?_
    refine r_iload (q := 37) DM_X5_findFewest_35 rfl rfl ?_
    refine r_iloadn (q := 38) DM_X5_findFewest_37 rfl rfl ?_
    refine r_iloadn (q := 39) DM_X5_findFewest_38 rfl rfl ?_
    refine r_callVi [.inl (cLast (cv μ3 4) x2 (cTurn (cv μ3 4) (μ3 4 4) 0)), .inl x2, .inl (cTurn (cv μ3 4) (μ3 4 4) 0)] (q := 42) DM_X5_findFewest_39 rfl kM_X5_canBeBehind lRX5_33 sh_30 rfl rfl (by decide) (Nat.le_of_ble_eq_true rfl) rfl (Cl.imp h (fun vv μ11 h => ?_))
    obtain ⟨v12, hv, h⟩ := h
    refine ⟨_, hv, ?_⟩
    refine r_bbne (q := 45) (t := 48) DM_X5_findFewest_42 rfl (by decide) ⟨fun cc => ?_, fun cc => ?_⟩
    · replace h := h.1 cc
      refine r_iconst (q := 49) (n := 0) DM_X5_findFewest_48 rfl ?_
      refine v_istore (q := 51) (ls' := [some (.inr 30), some (.inr 4), some (.inl x2), some (.inl (cTurn (cv μ3 4) (μ3 4 4) 0)), some (.inl (cLast (cv μ3 4) x2 (cTurn (cv μ3 4) (μ3 4 4) 0))), some (.inl 0)]) DM_X5_findFewest_49 rfl (by decide) rfl ?_
      exact h
    · replace h := h.2 cc
      refine r_ldc (q := 47) (n := (-1000000)) DM_X5_findFewest_45 rfl nRX5_37 ?_
      exact r_ret (v := some (.inl (-1000000))) ⟨DM_X5_findFewest_47, Or.inl rfl⟩ h
  · replace h := h.2 cc
    refine r_iconst (q := 33) (n := 0) DM_X5_findFewest_32 rfl ?_
    exact r_ret (v := some (.inl 0)) ⟨DM_X5_findFewest_33, Or.inl rfl⟩ h
set_option maxRecDepth 20000 in
theorem s_X5_findFewest_51 {E : Ex} {μ : Mem} {Q : Option Vl → Mem → Prop} {x2 x3 x4 x5 : Int}  (h : (0 ≤ x2 ∧ x2 < 6) ∧ inR x5 ∧ inR (μ (4 + 4) x2) ∧ (x5 > (μ (4 + 4) x2) → Q (some (.inl (-1000000))) μ) ∧ (¬ x5 > (μ (4 + 4) x2) → Cl E 20 M_X5_tryNames [.inr 31, .inr 4, .inl x2, .inl x4, .inl x3, .inl 0, .inl x5] μ (fun vv μ4 => ∃ v5, vv = some (.inl (bi v5)) ∧ (v5 = false → Gg E 21 M_X5_findFewest 51 [some (.inr 30), some (.inr 4), some (.inl x2), some (.inl x3), some (.inl x4), some (.inl (x5 + 1))] [] μ4 Q) ∧ (v5 = true → Q (some (.inl x5)) μ4)))) : Gg E 21 M_X5_findFewest 51 [some (.inr 30), some (.inr 4), some (.inl x2), some (.inl x3), some (.inl x4), some (.inl x5)] [] μ Q := by
  refine r_iload (q := 53) DM_X5_findFewest_51 rfl rfl ?_
  refine r_aloadn (q := 54) DM_X5_findFewest_53 rfl rfl ?_
  refine r_getR (q := 57) (r := 4 + 4) DM_X5_findFewest_54 rfl fRX5_38 (co0 cK_4) rfl ?_
  refine r_iloadn (q := 58) DM_X5_findFewest_57 rfl rfl ?_
  refine r_iald (q := 59) DM_X5_findFewest_58 rfl (co4 cK_4) (by decide) ⟨h.1, ?_⟩
  have i1 := h.1
  replace h := h.2
  have i2 := h.1
  replace h := h.2
  have i3 := h.1
  replace h := h.2
  refine r_icgt (q := 62) (t := 89) DM_X5_findFewest_59 rfl (by decide) ⟨⟨i2, i3⟩, fun cc => ?_, fun cc => ?_⟩
  · replace h := h.1 cc
    refine r_ldc (q := 91) (n := (-1000000)) DM_X5_findFewest_89 rfl nRX5_37 ?_
    exact r_ret (v := some (.inl (-1000000))) ⟨DM_X5_findFewest_91, Or.inl rfl⟩ h
  · replace h := h.2 cc
    refine r_aloadn (q := 63) DM_X5_findFewest_62 rfl rfl ?_
    refine r_getR (q := 66) (r := 31) DM_X5_findFewest_63 rfl fRX5_12 sh_30 rfl ?_
    refine r_aloadn (q := 67) DM_X5_findFewest_66 rfl rfl ?_
    refine r_iloadn (q := 68) DM_X5_findFewest_67 rfl rfl ?_
    refine r_iload (q := 70) DM_X5_findFewest_68 rfl rfl ?_
    refine r_iloadn (q := 71) DM_X5_findFewest_70 rfl rfl ?_
    refine r_iconst (q := 72) (n := 0) DM_X5_findFewest_71 rfl ?_
    refine r_iload (q := 74) DM_X5_findFewest_72 rfl rfl ?_
    refine r_callSi [.inr 31, .inr 4, .inl x2, .inl x4, .inl x3, .inl 0, .inl x5] (q := 77) DM_X5_findFewest_74 rfl kM_X5_tryNames lRX5_42 rfl (by decide) (Nat.le_of_ble_eq_true rfl) rfl (Cl.imp h (fun vv μ4 h => ?_))
    obtain ⟨v5, hv, h⟩ := h
    refine ⟨_, hv, ?_⟩
    refine r_bbeq (q := 80) (t := 83) DM_X5_findFewest_77 rfl (by decide) ⟨fun cc => ?_, fun cc => ?_⟩
    · replace h := h.1 cc
      refine v_iinc (q := 86) (ls' := [some (.inr 30), some (.inr 4), some (.inl x2), some (.inl x3), some (.inl x4), some (.inl (x5 + 1))]) DM_X5_findFewest_83 rfl rfl (by decide) rfl ?_
      refine r_goto (q := 51) DM_X5_findFewest_86 (by decide) ?_
      exact h
    · replace h := h.2 cc
      refine r_iload (q := 82) DM_X5_findFewest_80 rfl rfl ?_
      exact r_ret (v := some (.inl x5)) ⟨DM_X5_findFewest_82, Or.inl rfl⟩ h
def GL (v : CV) (x z : Int) : Prop := cLast v x (cTurn v (v 0 4) 0) = -1 ∨ Gz v x (cLast v x (cTurn v (v 0 4) 0)) (cTurn v (v 0 4) 0) z
def ocv (v : CV) (x z : Int) : Int := oc (fun i => v 5 (x * 4 + i)) (v 4 x) z (v 4 x)
def FW (v : CV) (x res : Int) (a : Int → Int) : Prop := (res = -1000000 ∧ ∀ z, 0 ≤ z → z / 8 ^ (v 4 x).toNat = 0 → ¬ GL v x z) ∨ ∃ z, (0 ≤ z ∧ z / 8 ^ (v 4 x).toNat = 0) ∧ GL v x z ∧ res = ocv v x z ∧ (∀ y, 0 ≤ y → y / 8 ^ (v 4 x).toNat = 0 → GL v x y → ocv v x z ≤ ocv v x y ∧ (ocv v x y = ocv v x z → z ≤ y)) ∧ ∀ i, 0 ≤ i → i < v 4 x → a (x * 4 + i) = dgt 8 z (v 4 x - 1 - i).toNat
section P83
variable {E : Ex} {v w : CV} {x r t p : Int} {μ : Mem} {Q : Option Vl → Mem → Prop}
theorem k_X5_canBeBehind (hR : RoOk E) (hx : 0 ≤ x ∧ x < 6) (hr : 0 ≤ r ∧ r < 6) (hrx : r ≠ x) (pr : pOK v r) (px : pOK v x) (ho : oOK v) (ht : 0 ≤ t ∧ t < 100000) (ts : TS v x μ) (hF : ∀ μ1 : Mem, (∀ k, k ≠ 36 → μ1 k = μ k) → TS v x μ1 → (∀ z, ¬ Gz v x r t z) → Q (some (.inl (bi false))) μ1) (hS : ∀ μ1 : Mem, (∀ k, k ≠ 36 → μ1 k = μ k) → TS v x μ1 → Q (some (.inl (bi true))) μ1) : Cl E 3 M_X5_canBeBehind [.inr 30, .inl r, .inl x, .inl t] μ Q := by
  have l4 := px.2.1
  obtain ⟨ll, hl⟩ : ∃ l, l = μ (31 + 1) ((7 + t) % 8) := ⟨_, rfl⟩
  have e1 : μ (31 + 1) = v 1 := ts.1.2.1 1 (by decide) (by decide) (by decide)
  have lo := ho ((7 + t) % 8) (by omega) (by omega)
  have lr : 0 ≤ ll ∧ ll ≤ 7 := by rw [hl, e1]; exact lo.1.1
  have l2 : v 2 ll = (7 + t) % 8 := by rw [hl, e1]; exact lo.1.2
  refine s_X5_canBeBehind ⟨by omega, ?_⟩
  rw [← hl]
  suffices hh : ∀ μ' : Mem, (∀ k, k ≠ 36 → μ' k = μ k) → TS v x μ' → (∀ i, 0 ≤ i → i < 0 → μ' 36 (x * 4 + i) = ll) → Gg E 3 M_X5_canBeBehind 15 [some (.inr 30), some (.inl r), some (.inl x), some (.inl t), some (.inl ll), some (.inl 0)] [] μ' Q from hh μ (fun _ _ => rfl) ts (fun i a b => absurd b (by omega))
  refine up_ind (N := v 4 x) (P := fun c => ∀ μ' : Mem, (∀ k, k ≠ 36 → μ' k = μ k) → TS v x μ' → (∀ i, 0 ≤ i → i < c → μ' 36 (x * 4 + i) = ll) → Gg E 3 M_X5_canBeBehind 15 [some (.inr 30), some (.inl r), some (.inl x), some (.inl t), some (.inl ll), some (.inl c)] [] μ' Q) 0 (by omega) (fun μ' k1 ts' ha => ?_) (fun c c0 c1 ih μ' k1 ts' ha => ?_)
  · obtain ⟨tx, tg, t4, t5⟩ := id ts'
    have e4 : μ' (31 + 4) x = v 4 x := congrFun (tx.2.1 4 (by decide) (by decide) (by decide)) x
    refine s_X5_canBeBehind_15 ⟨hx, by omega, by omega, fun _ => ⟨tg, hR, hr, tx.ok pr (Or.inr hrx), tx.ok px (Or.inl rfl), ?_⟩, fun z => absurd (by omega) z⟩
    cases hb : cBef (cv μ' 31) r x t
    · refine hF μ' k1 ts' (fun z gz => ?_)
      have key := cBef_key (t := t) (tx.ok pr (Or.inr hrx)) (tx.ok px (Or.inl rfl)) (tx.oo ho) hr hx
      have top : gk (nv v x (fun i => dgt 8 z (v 4 x - 1 - i).toNat)) x t ≤ gk (cv μ' 31) x t := by
        refine gk_top ?_ ?_ ?_ (fun i i0 i1 => ?_)
        · rw [nv_ne (by decide)]; exact congrFun (tx.2.1 3 (by decide) (by decide) (by decide)) x
        · rw [nv_ne (by decide)]; exact e4
        · rw [nv_ne (by decide)]; exact l4.2
        · rw [nv_ne (by decide)] at i1
          have : cv μ' 31 5 (x * 4 + i) = ll := ha i i0 i1
          unfold cPlace
          rw [this, tx.2.1 2 (by decide) (by decide) (by decide), l2]
          omega
      have gr := tx.gk (t := t) pr hrx
      unfold Gz at gz
      rw [key.mpr (by omega)] at hb
      exact absurd hb (by decide)
    · exact hS μ' k1 ts'
  · obtain ⟨tx, tg, t4, t5⟩ := id ts'
    have e4 : μ' (31 + 4) x = v 4 x := congrFun (tx.2.1 4 (by decide) (by decide) (by decide)) x
    refine s_X5_canBeBehind_15 ⟨hx, by omega, by omega, fun z => absurd z (by omega), fun _ => ⟨by omega, fun μ2 e2 => ih μ2 (fun k hk => by rw [e2, up_ne hk, k1 k hk]) (by rw [e2]; exact ts'.put (by omega) lr) (fun i i0 i1 => ?_)⟩⟩
    rw [e2]
    by_cases e : i = c
    · rw [e]; exact up_self
    · rw [up_off (Or.inr (by omega))]; exact ha i i0 (by omega)
theorem k_X5_findFewest (hR : RoOk E) (hV : VC (cv μ 4)) (hs : μ 4 0 = 1) (g4 : RgC μ 4) (g31 : RgC μ 31) (hx : 0 ≤ x ∧ x < μ 4 1) (h : ∀ (v : CV) (μ1 : Mem) (res : Int), eqv (cv μ 4) v → (∀ k, (k < 31 ∨ 41 ≤ k) → μ1 k = μ k) → RgC μ1 31 → FW v x res (μ1 36) → Q (some (.inl res)) μ1) : Cl E 21 M_X5_findFewest [.inr 30, .inr 4, .inl x] μ Q := by
  refine s_X5_findFewest ⟨by decide, Or.inr hs, fun μ3 h3 => ?_⟩
  have o3 : ∀ k, (k < 31 ∨ 41 ≤ k) → μ3 k = μ k := fun k hk => h3.2 k (by omega)
  have ev : eqv (cv μ 4) (cv μ3 4) := cv_eqv (fun k a b => o3 k (by omega))
  have hV3 := ev.vc hV
  have n6 : 0 ≤ μ3 4 1 ∧ μ3 4 1 ≤ 6 := hV3.2.1
  have d3 : 0 ≤ μ3 4 3 ∧ μ3 4 3 ≤ 30 := hV3.2.2.1
  have d4 : 0 ≤ μ3 4 4 ∧ μ3 4 4 ≤ 1500 := hV3.2.2.2.1
  have s3 : μ3 4 0 = 1 := by rw [o3 4 (by decide)]; exact hs
  have x3 : x < μ3 4 1 := by rw [o3 4 (by decide)]; exact hx.2
  have g43 : RgC μ3 4 := g4.cg (fun k a b => o3 k (by omega))
  have g313 : RgC μ3 31 := cv_rng h3.1 (Rgv.tk (Rgv.of g31) (Rgv.of g4))
  have ho : oOK (cv μ3 4) := by
    rcases hV3.1 with q | q
    · exact absurd (q.1.symm.trans s3) (by decide)
    · exact q.2.2
  have hpk := hV3.2.2.2.2.2
  have px : pOK (cv μ3 4) x := hpk x hx.1 x3
  have tx : trX (cv μ3 4) (cv μ3 31) x := by
    rw [h3.1]
    have key : ∀ (j : Nat) (i : Int), ((j = 0 ∧ i ≤ 5) ∨ (1 ≤ j ∧ j ≤ 8)) → tkC (cv μ 31) (cv μ 4) j i = cv μ3 4 j i := fun j i hj => by
      unfold tkC
      rw [if_pos hj]
      show μ (4 + j) i = μ3 (4 + j) i
      rw [o3 (4 + j) (by omega)]
    refine ⟨fun i hi => key 0 i (Or.inl ⟨rfl, hi⟩), fun j j1 j2 _ => funext (fun i => key j i (Or.inr ⟨j1, j2⟩)), fun i _ => key 5 i (Or.inr (by decide)), fun i i0 i1 => ?_⟩
    rw [key 5 _ (Or.inr (by decide))]
    exact px.2.2.2.2 i i0 i1
  have ts : TS (cv μ3 4) x μ3 := ⟨tx, g313, rfl, rfl⟩
  obtain ⟨v, hv⟩ : ∃ v, v = cv μ3 4 := ⟨_, rfl⟩
  have cm := cLast_max (x := x) (t := cTurn (cv μ3 4) (μ3 4 4) 0) hV3 s3
  have tr : 0 ≤ cTurn (cv μ3 4) (μ3 4 4) 0 ∧ cTurn (cv μ3 4) (μ3 4 4) 0 < 100000 := by
    by_cases hq : μ3 4 3 = 0
    · rw [cTurn_0 (v := cv μ3 4) hq]; decide
    · rw [cTurn_1 (v := cv μ3 4) hq, show cv μ3 4 0 3 = μ3 4 3 from rfl]
      have h1 : 0 ≤ μ3 4 4 / μ3 4 3 := Int.ediv_nonneg d4.1 d3.1
      have h2 : μ3 4 4 / μ3 4 3 ≤ μ3 4 4 := Int.ediv_le_self _ d4.1
      omega
  refine ⟨by omega, by omega, g43, hR, hV3, by omega, ?_⟩
  have GLd : ∀ z, GL (cv μ3 4) x z ↔ (cLast (cv μ3 4) x (cTurn (cv μ3 4) (μ3 4 4) 0) = -1 ∨ Gz (cv μ3 4) x (cLast (cv μ3 4) x (cTurn (cv μ3 4) (μ3 4 4) 0)) (cTurn (cv μ3 4) (μ3 4 4) 0) z) := fun z => Iff.rfl
  obtain ⟨t, et⟩ : ∃ t, t = cTurn (cv μ3 4) (μ3 4 4) 0 := ⟨_, rfl⟩
  rw [← et] at cm tr GLd ⊢
  obtain ⟨r, er⟩ : ∃ r, r = cLast (cv μ3 4) x t := ⟨_, rfl⟩
  rw [← er] at cm GLd ⊢
  rw [← hv] at hV3 ho hpk px ts cm GLd ev
  have l4 := px.2.1
  have n1 : v 0 1 = μ3 4 1 := by rw [hv]; rfl
  have e44 : ∀ μ' : Mem, (∀ k, k ≠ 36 → μ' k = μ3 k) → μ' (4 + 4) x = v 4 x := fun μ' k1 => by rw [k1 (4 + 4) (by decide), hv]; rfl
  refine ⟨by rcases cm with q | q <;> omega, fun z => ?_, fun z => ?_⟩
  · rcases cm with q | ⟨r0, rx, rw', rm⟩
    · exact absurd q.1 z
    have pr := hpk r r0.1 r0.2
    refine k_X5_canBeBehind hR (by omega) (by omega) rx pr px ho tr ts (fun μ4 k4 ts4 no => ⟨_, rfl, fun q => absurd q (by decide), fun _ => h v μ4 _ ev (fun k hk => by rw [k4 k (by omega), o3 k hk]) ts4.2.1 (Or.inl ⟨rfl, fun z z0 z1 gz => ?_⟩)⟩) (fun μ4 k4 ts4 => ⟨_, rfl, fun _ => ?_, fun q => absurd q (by decide)⟩)
    · rcases (GLd z).mp gz with q | q
      · omega
      · exact no z q
    · suffices hh : ∀ μ' : Mem, (∀ k, k ≠ 36 → μ' k = μ3 k) → TS v x μ' → (∀ z, 0 ≤ z → z / 8 ^ (v 4 x).toNat = 0 → ocv v x z < 0 → ¬ Gz v x r t z) → Gg E 21 M_X5_findFewest 51 [some (.inr 30), some (.inr 4), some (.inl x), some (.inl t), some (.inl r), some (.inl 0)] [] μ' Q from
        hh μ4 k4 ts4 (fun z z0 z1 z2 => absurd z2 (by have := (oc_rng (z := z) (own := fun i => v 5 (x * 4 + i)) (n := v 4 x) (k := v 4 x) (by omega)).1; unfold ocv; omega))
      refine up_ind (N := v 4 x + 1) (P := fun c => ∀ μ' : Mem, (∀ k, k ≠ 36 → μ' k = μ3 k) → TS v x μ' → (∀ z, 0 ≤ z → z / 8 ^ (v 4 x).toNat = 0 → ocv v x z < c → ¬ Gz v x r t z) → Gg E 21 M_X5_findFewest 51 [some (.inr 30), some (.inr 4), some (.inl x), some (.inl t), some (.inl r), some (.inl c)] [] μ' Q) 0 (by omega) (fun μ' k1 ts' no => ?_) (fun c c0 c1 ih μ' k1 ts' no => ?_)
      · have e4 := e44 μ' k1
        refine s_X5_findFewest_51 ⟨by omega, by omega, by omega, fun _ => h v μ' _ ev (fun k hk => by rw [k1 k (by omega), o3 k hk]) ts'.2.1 (Or.inl ⟨rfl, fun z z0 z1 gz => ?_⟩), fun z => absurd (by omega) z⟩
        rcases (GLd z).mp gz with q | q
        · omega
        · exact no z z0 z1 (by have := (oc_rng (z := z) (own := fun i => v 5 (x * 4 + i)) (n := v 4 x) (k := v 4 x) (by omega)).2; unfold ocv; omega) q
      · have e4 := e44 μ' k1
        refine s_X5_findFewest_51 ⟨by omega, by omega, by omega, fun z => absurd z (by omega), fun _ => k_try (m0 := c) hR (by omega) (by omega) rx pr px ho (v 4 x).toNat 0 c 0 μ' 19 _ (by omega) (by decide) (by omega) (by decide) (by omega) ts' (fun z z0 z1 => ⟨fun i i0 i1 => absurd i1 (by omega), by rw [show oc (fun i => v 5 (x * 4 + i)) (v 4 x) z 0 = 0 from cntI_0]; omega⟩) (fun μ5 k5 ts5 no5 => ⟨_, rfl, fun _ => ih μ5 (fun k hk => by rw [k5.1 k hk, k1 k hk]) ts5 (fun z z0 z1 z2 => ?_), fun q => absurd q (by decide)⟩) (fun μ5 z k5 ts5 z0 z1 z2 z3 z4 z5 => ⟨_, rfl, fun q => absurd q (by decide), fun _ => h v μ5 _ ev (fun k hk => by rw [k5.1 k (by omega), k1 k (by omega), o3 k hk]) ts5.2.1 (Or.inr ⟨z, ⟨z0, z1⟩, (GLd z).mpr (Or.inr z3), z2.symm, fun y y0 y1 gy => ?_, z5⟩)⟩)⟩
        · by_cases e : ocv v x z = c
          · exact no5 z z0 z1 e
          · exact no z z0 z1 (by omega)
        · have z2' : ocv v x z = c := z2
          have gy' : Gz v x r t y := by
            rcases (GLd y).mp gy with q | q
            · omega
            · exact q
          have le : c ≤ ocv v x y := by
            rcases (show ocv v x y < c ∨ c ≤ ocv v x y by omega) with q | q
            · exact absurd gy' (no y y0 y1 q)
            · exact q
          refine ⟨by omega, fun e => ?_⟩
          rcases (show y < z ∨ z ≤ y by omega) with q | q
          · exact absurd gy' (z4 y y0 y1 q (show ocv v x y = c by omega))
          · exact q
  · obtain ⟨z, z0, z1, z2⟩ := dg_ex (B := 8) (by decide) (fun i => v 5 (x * 4 + i)) (v 4 x).toNat (fun i i0 i1 => by have := px.2.2.2.2 i i0 (by omega); omega)
    have z3 : ∀ i, 0 ≤ i → i < v 4 x → dgt 8 z (v 4 x - 1 - i).toNat = v 5 (x * 4 + i) := fun i i0 i1 => by
      have := z2 i i0 (by omega)
      rwa [show (((v 4 x).toNat : Nat) : Int) - 1 - i = v 4 x - 1 - i by omega] at this
    have zo : ocv v x z = 0 := oc_own (by omega) z3
    refine h v μ3 _ ev (fun k hk => o3 k hk) g313 (Or.inr ⟨z, ⟨z0, z1⟩, (GLd z).mpr (Or.inl (by assumption)), zo.symm, fun y y0 y1 _ => ⟨?_, fun e => ?_⟩, fun i i0 i1 => ?_⟩)
    · rw [zo]; exact (oc_rng (by omega)).1
    · rw [zo] at e
      have yd := oc_0 (by omega) e
      have : z = y := by
        refine dg_inj (B := 8) (by decide) (v 4 x).toNat (z1.trans y1.symm) (fun i hi => ?_)
        have a := z3 (v 4 x - 1 - i) (by omega) (by omega)
        have b := yd (v 4 x - 1 - i) (by omega) (by omega)
        rw [show (v 4 x - 1 - (v 4 x - 1 - (i : Int))).toNat = i by omega] at a b
        rw [a, b]
      omega
    · rw [z3 i i0 i1]
      have := congrFun (congrFun h3.1 5) (x * 4 + i)
      replace this : μ3 36 (x * 4 + i) = μ 9 (x * 4 + i) := this
      rw [this, hv]
      show μ 9 (x * 4 + i) = μ3 9 (x * 4 + i)
      rw [o3 9 (by decide)]
end P83

/-! A court is read: the order. -/
set_option maxRecDepth 20000 in
theorem s_X4_readOrder {E : Ex} {μ : Mem} {Q : Option Vl → Mem → Prop}  (h : Cl E 2 M_X4_passOver [.inr 2, .inl 111] μ (fun vv μ1 => ∃ v2, vv = some (.inl (bi v2)) ∧ (v2 = true → Gg E 3 M_X4_readOrder 15 [some (.inr 2), some (.inr 14), some (.inl 0), some (.inl 0), none] [] μ1 Q) ∧ (v2 = false → Q (some (.inl (bi false))) μ1))) : Cl E 3 M_X4_readOrder [.inr 2, .inr 14] μ Q := by
  show Gg E 3 M_X4_readOrder 0 [some (.inr 2), some (.inr 14), none, none, none] [] μ Q
  refine r_aloadn (q := 1) DM_X4_readOrder_0 rfl rfl ?_
  refine r_bipush (q := 3) (n := 111) DM_X4_readOrder_1 rfl (by decide) ?_
  refine r_callVi [.inl 111] (q := 6) DM_X4_readOrder_3 rfl kM_X4_passOver lRX4_40 sh_2 rfl rfl (by decide) (Nat.le_of_ble_eq_true rfl) rfl (Cl.imp h (fun vv μ1 h => ?_))
  obtain ⟨v2, hv, h⟩ := h
  refine ⟨_, hv, ?_⟩
  refine r_bbne (q := 9) (t := 11) DM_X4_readOrder_6 rfl (by decide) ⟨fun cc => ?_, fun cc => ?_⟩
  · replace h := h.1 cc
    refine r_iconst (q := 12) (n := 0) DM_X4_readOrder_11 rfl ?_
    refine v_istoren (q := 13) (ls' := [some (.inr 2), some (.inr 14), some (.inl 0), none, none]) DM_X4_readOrder_12 rfl (by decide) rfl ?_
    refine r_iconst (q := 14) (n := 0) DM_X4_readOrder_13 rfl ?_
    refine v_istoren (q := 15) (ls' := [some (.inr 2), some (.inr 14), some (.inl 0), some (.inl 0), none]) DM_X4_readOrder_14 rfl (by decide) rfl ?_
    exact h
  · replace h := h.2 cc
    refine r_iconst (q := 10) (n := 0) DM_X4_readOrder_9 rfl ?_
    exact r_ret (v := some (.inl 0)) ⟨DM_X4_readOrder_10, Or.inr ⟨rfl, Or.inl rfl⟩⟩ h
set_option maxRecDepth 20000 in
theorem s_X4_readOrder_15 {E : Ex} {μ : Mem} {Q : Option Vl → Mem → Prop} {x2 x3 : Int}  (h : inR x3 ∧ (x3 ≥ 8 → Cl E 0 M_X4_isLetter [.inr 2] μ (fun vv μ2 => ∃ v3, vv = some (.inl (bi v3)) ∧ (v3 = false → Gg E 3 M_X4_readOrder 90 [some (.inr 2), some (.inr 14), some (.inl x2), some (.inl x3), some (.inl 0)] [] μ2 Q) ∧ (v3 = true → Cl E 0 M_X4_hasFault [.inr 2, .inl 2] μ2 (fun vv μ4 => ∃ v5, vv = some (.inl (bi v5)) ∧ Q (some (.inl (bi v5))) μ4)))) ∧ (¬ x3 ≥ 8 → Cl E 0 M_X4_isLetter [.inr 2] μ (fun vv μ6 => ∃ v7, vv = some (.inl (bi v7)) ∧ (v7 = false → Cl E 0 M_X4_isLetter [.inr 2] μ6 (fun vv μ8 => ∃ v9, vv = some (.inl (bi v9)) ∧ (v9 = false → Gg E 3 M_X4_readOrder 90 [some (.inr 2), some (.inr 14), some (.inl x2), some (.inl x3), some (.inl 0)] [] μ8 Q) ∧ (v9 = true → Cl E 0 M_X4_hasFault [.inr 2, .inl 2] μ8 (fun vv μ10 => ∃ v11, vv = some (.inl (bi v11)) ∧ Q (some (.inl (bi v11))) μ10)))) ∧ (v7 = true → Cl E 0 M_X4_letterOfToken [.inr 2] μ6 (fun vv μ12 => ∃ v13, vv = some (.inl v13) ∧ inR (jand (jshr x2 v13) 1) ∧ ((jand (jshr x2 v13) 1) ≠ 1 → (0 ≤ x3 ∧ x3 < 8) ∧ (0 ≤ v13 ∧ v13 < 8) ∧ ∀ μ17 : Mem, μ17 = up (up μ12 (14 + 1) x3 v13) (14 + 2) v13 x3 → Cl E 1 M_X4_step [.inr 2] μ17 (fun vv μ18 => vv = none ∧ Gg E 3 M_X4_readOrder 15 [some (.inr 2), some (.inr 14), some (.inl (jor x2 (jshl 1 v13))), some (.inl (x3 + 1)), none] [] μ18 Q)) ∧ ((jand (jshr x2 v13) 1) = 1 → Cl E 0 M_X4_hasFault [.inr 2, .inl 2] μ12 (fun vv μ20 => ∃ v21, vv = some (.inl (bi v21)) ∧ Q (some (.inl (bi v21))) μ20))))))) : Gg E 3 M_X4_readOrder 15 [some (.inr 2), some (.inr 14), some (.inl x2), some (.inl x3), none] [] μ Q := by
  refine r_iloadn (q := 16) DM_X4_readOrder_15 rfl rfl ?_
  refine r_bipush (q := 18) (n := 8) DM_X4_readOrder_16 rfl (by decide) ?_
  have i1 := h.1
  replace h := h.2
  refine r_icge (q := 21) (t := 74) DM_X4_readOrder_18 rfl (by decide) ⟨⟨i1, (by decide)⟩, fun cc => ?_, fun cc => ?_⟩
  · replace h := h.1 cc
    refine r_aloadn (q := 75) DM_X4_readOrder_74 rfl rfl ?_
    refine r_callVi [] (q := 78) DM_X4_readOrder_75 rfl kM_X4_isLetter lRX4_58 sh_2 rfl rfl (by decide) (Nat.le_of_ble_eq_true rfl) rfl (Cl.imp h (fun vv μ2 h => ?_))
    obtain ⟨v3, hv, h⟩ := h
    refine ⟨_, hv, ?_⟩
    refine r_bbeq (q := 81) (t := 87) DM_X4_readOrder_78 rfl (by decide) ⟨fun cc => ?_, fun cc => ?_⟩
    · replace h := h.1 cc
      refine r_iconst (q := 88) (n := 0) DM_X4_readOrder_87 rfl ?_
      refine v_istore (q := 90) (ls' := [some (.inr 2), some (.inr 14), some (.inl x2), some (.inl x3), some (.inl 0)]) DM_X4_readOrder_88 rfl (by decide) rfl ?_
      exact h
    · replace h := h.2 cc
      refine r_aloadn (q := 82) DM_X4_readOrder_81 rfl rfl ?_
      refine r_iconst (q := 83) (n := 2) DM_X4_readOrder_82 rfl ?_
      refine r_callVi [.inl 2] (q := 86) DM_X4_readOrder_83 rfl kM_X4_hasFault lRX4_65 sh_2 rfl rfl (by decide) (Nat.le_of_ble_eq_true rfl) rfl (Cl.imp h (fun vv μ4 h => ?_))
      obtain ⟨v5, hv, h⟩ := h
      refine ⟨_, hv, ?_⟩
      exact r_ret (v := some (.inl (bi v5))) ⟨DM_X4_readOrder_86, Or.inr ⟨rfl, bi_01 _⟩⟩ h
  · replace h := h.2 cc
    refine r_aloadn (q := 22) DM_X4_readOrder_21 rfl rfl ?_
    refine r_callVi [] (q := 25) DM_X4_readOrder_22 rfl kM_X4_isLetter lRX4_58 sh_2 rfl rfl (by decide) (Nat.le_of_ble_eq_true rfl) rfl (Cl.imp h (fun vv μ6 h => ?_))
    obtain ⟨v7, hv, h⟩ := h
    refine ⟨_, hv, ?_⟩
    refine r_bbeq (q := 28) (t := 74) DM_X4_readOrder_25 rfl (by decide) ⟨fun cc => ?_, fun cc => ?_⟩
    · replace h := h.1 cc
      refine r_aloadn (q := 75) DM_X4_readOrder_74 rfl rfl ?_
      refine r_callVi [] (q := 78) DM_X4_readOrder_75 rfl kM_X4_isLetter lRX4_58 sh_2 rfl rfl (by decide) (Nat.le_of_ble_eq_true rfl) rfl (Cl.imp h (fun vv μ8 h => ?_))
      obtain ⟨v9, hv, h⟩ := h
      refine ⟨_, hv, ?_⟩
      refine r_bbeq (q := 81) (t := 87) DM_X4_readOrder_78 rfl (by decide) ⟨fun cc => ?_, fun cc => ?_⟩
      · replace h := h.1 cc
        refine r_iconst (q := 88) (n := 0) DM_X4_readOrder_87 rfl ?_
        refine v_istore (q := 90) (ls' := [some (.inr 2), some (.inr 14), some (.inl x2), some (.inl x3), some (.inl 0)]) DM_X4_readOrder_88 rfl (by decide) rfl ?_
        exact h
      · replace h := h.2 cc
        refine r_aloadn (q := 82) DM_X4_readOrder_81 rfl rfl ?_
        refine r_iconst (q := 83) (n := 2) DM_X4_readOrder_82 rfl ?_
        refine r_callVi [.inl 2] (q := 86) DM_X4_readOrder_83 rfl kM_X4_hasFault lRX4_65 sh_2 rfl rfl (by decide) (Nat.le_of_ble_eq_true rfl) rfl (Cl.imp h (fun vv μ10 h => ?_))
        obtain ⟨v11, hv, h⟩ := h
        refine ⟨_, hv, ?_⟩
        exact r_ret (v := some (.inl (bi v11))) ⟨DM_X4_readOrder_86, Or.inr ⟨rfl, bi_01 _⟩⟩ h
    · replace h := h.2 cc
      refine r_aloadn (q := 29) DM_X4_readOrder_28 rfl rfl ?_
      refine r_callVi [] (q := 32) DM_X4_readOrder_29 rfl kM_X4_letterOfToken lRX4_62 sh_2 rfl rfl (by decide) (Nat.le_of_ble_eq_true rfl) rfl (Cl.imp h (fun vv μ12 h => ?_))
      obtain ⟨v13, hv, h⟩ := h
      refine ⟨v13, hv, ?_⟩
      refine v_istore (q := 34) (ls' := [some (.inr 2), some (.inr 14), some (.inl x2), some (.inl x3), some (.inl v13)]) DM_X4_readOrder_32 rfl (by decide) rfl ?_
      refine r_iloadn (q := 35) DM_X4_readOrder_34 rfl rfl ?_
      refine r_iload (q := 37) DM_X4_readOrder_35 rfl rfl ?_
      refine r_ishr (q := 38) DM_X4_readOrder_37 rfl ?_
      refine r_iconst (q := 39) (n := 1) DM_X4_readOrder_38 rfl ?_
      refine r_iand (q := 40) DM_X4_readOrder_39 rfl ?_
      refine r_iconst (q := 41) (n := 1) DM_X4_readOrder_40 rfl ?_
      have i14 := h.1
      replace h := h.2
      refine r_icne (q := 44) (t := 50) DM_X4_readOrder_41 rfl (by decide) ⟨⟨i14, (by decide)⟩, fun cc => ?_, fun cc => ?_⟩
      · replace h := h.1 cc
        refine r_iloadn (q := 51) DM_X4_readOrder_50 rfl rfl ?_
        refine r_iconst (q := 52) (n := 1) DM_X4_readOrder_51 rfl ?_
        refine r_iload (q := 54) DM_X4_readOrder_52 rfl rfl ?_
        refine r_ishl (q := 55) DM_X4_readOrder_54 rfl ?_
        refine r_ior (q := 56) DM_X4_readOrder_55 rfl ?_
        refine v_istoren (q := 57) (ls' := [some (.inr 2), some (.inr 14), some (.inl (jor x2 (jshl 1 v13))), some (.inl x3), some (.inl v13)]) DM_X4_readOrder_56 rfl (by decide) rfl ?_
        refine r_aloadn (q := 58) DM_X4_readOrder_57 rfl rfl ?_
        refine r_iloadn (q := 59) DM_X4_readOrder_58 rfl rfl ?_
        refine r_iload (q := 61) DM_X4_readOrder_59 rfl rfl ?_
        have i15 := h.1
        replace h := h.2
        have i16 := h.1
        replace h := h.2
        refine r_callVv [.inl x3, .inl v13] (q := 64) DM_X4_readOrder_61 rfl kM_X2_tellOrder lRX4_68 (co0 cK_14) rfl rfl (by decide) (Nat.le_of_ble_eq_true rfl) rfl (k_X2_tellOrder cK_14 i15 i16 (fun μ17 e17 => ⟨rfl, ?_⟩))
        replace h := h μ17 e17
        refine r_aloadn (q := 65) DM_X4_readOrder_64 rfl rfl ?_
        refine r_callVv [] (q := 68) DM_X4_readOrder_65 rfl kM_X4_step lRX4_27 sh_2 rfl rfl (by decide) (Nat.le_of_ble_eq_true rfl) rfl (Cl.imp h (fun vv μ18 h => ?_))
        obtain ⟨hv, h⟩ := h
        refine ⟨hv, ?_⟩
        refine v_iinc (q := 71) (ls' := [some (.inr 2), some (.inr 14), some (.inl (jor x2 (jshl 1 v13))), some (.inl (x3 + 1)), some (.inl v13)]) DM_X4_readOrder_68 rfl rfl (by decide) rfl ?_
        refine r_goto (q := 15) DM_X4_readOrder_71 (by decide) ?_
        exact Gg.weak [true, true, true, true, false] h
      · replace h := h.2 cc
        refine r_aloadn (q := 45) DM_X4_readOrder_44 rfl rfl ?_
        refine r_iconst (q := 46) (n := 2) DM_X4_readOrder_45 rfl ?_
        refine r_callVi [.inl 2] (q := 49) DM_X4_readOrder_46 rfl kM_X4_hasFault lRX4_65 sh_2 rfl rfl (by decide) (Nat.le_of_ble_eq_true rfl) rfl (Cl.imp h (fun vv μ20 h => ?_))
        obtain ⟨v21, hv, h⟩ := h
        refine ⟨_, hv, ?_⟩
        exact r_ret (v := some (.inl (bi v21))) ⟨DM_X4_readOrder_49, Or.inr ⟨rfl, bi_01 _⟩⟩ h
set_option maxRecDepth 20000 in
theorem s_X4_readOrder_90 {E : Ex} {μ : Mem} {Q : Option Vl → Mem → Prop} {x2 x3 x4 : Int}  (h : inR x4 ∧ (x4 ≥ 8 → Cl E 2 M_X4_passOver [.inr 2, .inl 59] μ (fun vv μ2 => ∃ v3, vv = some (.inl (bi v3)) ∧ Q (some (.inl (bi v3))) μ2)) ∧ (¬ x4 ≥ 8 → inR x3 ∧ (x3 ≥ 8 → Cl E 2 M_X4_passOver [.inr 2, .inl 59] μ (fun vv μ5 => ∃ v6, vv = some (.inl (bi v6)) ∧ Q (some (.inl (bi v6))) μ5)) ∧ (¬ x3 ≥ 8 → inR (jand (jshr x2 x4) 1) ∧ ((jand (jshr x2 x4) 1) ≠ 0 → Gg E 3 M_X4_readOrder 90 [some (.inr 2), some (.inr 14), some (.inl x2), some (.inl x3), some (.inl (x4 + 1))] [] μ Q) ∧ ((jand (jshr x2 x4) 1) = 0 → (0 ≤ x3 ∧ x3 < 8) ∧ (0 ≤ x4 ∧ x4 < 8) ∧ ∀ μ10 : Mem, μ10 = up (up μ (14 + 1) x3 x4) (14 + 2) x4 x3 → Gg E 3 M_X4_readOrder 90 [some (.inr 2), some (.inr 14), some (.inl x2), some (.inl (x3 + 1)), some (.inl (x4 + 1))] [] μ10 Q)))) : Gg E 3 M_X4_readOrder 90 [some (.inr 2), some (.inr 14), some (.inl x2), some (.inl x3), some (.inl x4)] [] μ Q := by
  refine r_iload (q := 92) DM_X4_readOrder_90 rfl rfl ?_
  refine r_bipush (q := 94) (n := 8) DM_X4_readOrder_92 rfl (by decide) ?_
  have i1 := h.1
  replace h := h.2
  refine r_icge (q := 97) (t := 128) DM_X4_readOrder_94 rfl (by decide) ⟨⟨i1, (by decide)⟩, fun cc => ?_, fun cc => ?_⟩
  · replace h := h.1 cc
    refine r_aloadn (q := 129) DM_X4_readOrder_128 rfl rfl ?_
    refine r_bipush (q := 131) (n := 59) DM_X4_readOrder_129 rfl (by decide) ?_
    refine r_callVi [.inl 59] (q := 134) DM_X4_readOrder_131 rfl kM_X4_passOver lRX4_40 sh_2 rfl rfl (by decide) (Nat.le_of_ble_eq_true rfl) rfl (Cl.imp h (fun vv μ2 h => ?_))
    obtain ⟨v3, hv, h⟩ := h
    refine ⟨_, hv, ?_⟩
    exact r_ret (v := some (.inl (bi v3))) ⟨DM_X4_readOrder_134, Or.inr ⟨rfl, bi_01 _⟩⟩ h
  · replace h := h.2 cc
    refine r_iloadn (q := 98) DM_X4_readOrder_97 rfl rfl ?_
    refine r_bipush (q := 100) (n := 8) DM_X4_readOrder_98 rfl (by decide) ?_
    have i4 := h.1
    replace h := h.2
    refine r_icge (q := 103) (t := 128) DM_X4_readOrder_100 rfl (by decide) ⟨⟨i4, (by decide)⟩, fun cc => ?_, fun cc => ?_⟩
    · replace h := h.1 cc
      refine r_aloadn (q := 129) DM_X4_readOrder_128 rfl rfl ?_
      refine r_bipush (q := 131) (n := 59) DM_X4_readOrder_129 rfl (by decide) ?_
      refine r_callVi [.inl 59] (q := 134) DM_X4_readOrder_131 rfl kM_X4_passOver lRX4_40 sh_2 rfl rfl (by decide) (Nat.le_of_ble_eq_true rfl) rfl (Cl.imp h (fun vv μ5 h => ?_))
      obtain ⟨v6, hv, h⟩ := h
      refine ⟨_, hv, ?_⟩
      exact r_ret (v := some (.inl (bi v6))) ⟨DM_X4_readOrder_134, Or.inr ⟨rfl, bi_01 _⟩⟩ h
    · replace h := h.2 cc
      refine r_iloadn (q := 104) DM_X4_readOrder_103 rfl rfl ?_
      refine r_iload (q := 106) DM_X4_readOrder_104 rfl rfl ?_
      refine r_ishr (q := 107) DM_X4_readOrder_106 rfl ?_
      refine r_iconst (q := 108) (n := 1) DM_X4_readOrder_107 rfl ?_
      refine r_iand (q := 109) DM_X4_readOrder_108 rfl ?_
      have i7 := h.1
      replace h := h.2
      refine r_ifne (q := 112) (t := 122) DM_X4_readOrder_109 rfl (by decide) ⟨i7, fun cc => ?_, fun cc => ?_⟩
      · replace h := h.1 cc
        refine v_iinc (q := 125) (ls' := [some (.inr 2), some (.inr 14), some (.inl x2), some (.inl x3), some (.inl (x4 + 1))]) DM_X4_readOrder_122 rfl rfl (by decide) rfl ?_
        refine r_goto (q := 90) DM_X4_readOrder_125 (by decide) ?_
        exact h
      · replace h := h.2 cc
        refine r_aloadn (q := 113) DM_X4_readOrder_112 rfl rfl ?_
        refine r_iloadn (q := 114) DM_X4_readOrder_113 rfl rfl ?_
        refine r_iload (q := 116) DM_X4_readOrder_114 rfl rfl ?_
        have i8 := h.1
        replace h := h.2
        have i9 := h.1
        replace h := h.2
        refine r_callVv [.inl x3, .inl x4] (q := 119) DM_X4_readOrder_116 rfl kM_X2_tellOrder lRX4_68 (co0 cK_14) rfl rfl (by decide) (Nat.le_of_ble_eq_true rfl) rfl (k_X2_tellOrder cK_14 i8 i9 (fun μ10 e10 => ⟨rfl, ?_⟩))
        replace h := h μ10 e10
        refine v_iinc (q := 122) (ls' := [some (.inr 2), some (.inr 14), some (.inl x2), some (.inl (x3 + 1)), some (.inl x4)]) DM_X4_readOrder_119 rfl rfl (by decide) rfl ?_
        refine v_iinc (q := 125) (ls' := [some (.inr 2), some (.inr 14), some (.inl x2), some (.inl (x3 + 1)), some (.inl (x4 + 1))]) DM_X4_readOrder_122 rfl rfl (by decide) rfl ?_
        refine r_goto (q := 90) DM_X4_readOrder_125 (by decide) ?_
        exact h
/-- so many letters of the order are told: k of them, as bits B -/
def ordI (o p : Int → Int) (k : Int) (B : Nat) : Prop := B < 256 ∧ (0 ≤ k ∧ k ≤ 8) ∧ cntI (fun l => B.testBit l.toNat) 8 = k ∧ (∀ j, 0 ≤ j → j < k → (0 ≤ o j ∧ o j ≤ 7) ∧ p (o j) = j ∧ B.testBit (o j).toNat = true) ∧ ∀ l, 0 ≤ l → l < 8 → B.testBit l.toNat = true → (0 ≤ p l ∧ p l < k) ∧ o (p l) = l
theorem cntI_full {f : Int → Bool} {N : Int} (hN : 0 ≤ N) (h : N ≤ cntI f N) : ∀ l, 0 ≤ l → l < N → f l = true := by
  intro l l0 l1
  cases e : f l
  · have := cntI_lt (f := f) (g := fun _ => true) l0 l1 e rfl (fun _ _ _ _ => rfl)
    have := (cntI_rng (f := fun _ => true) N hN).2
    omega
  · rfl
theorem ordI.full {o p : Int → Int} {B : Nat} {l : Int} (h : ordI o p 8 B) (l0 : 0 ≤ l) (l1 : l < 8) : B.testBit l.toNat = true := cntI_full (N := 8) (by decide) (by rw [h.2.2.1]; exact Int.le_refl _) l l0 l1
theorem ordI.lt {o p : Int → Int} {k : Int} {B : Nat} {c : Int} (h : ordI o p k B) (c0 : 0 ≤ c) (c1 : c < 8) (hc : B.testBit c.toNat = false) : k < 8 := by
  have := cntI_lt (f := fun l => B.testBit l.toNat) (g := fun _ => true) (N := 8) c0 c1 hc rfl (fun _ _ _ _ => rfl)
  have := (cntI_rng (f := fun _ => true) 8 (by decide)).2
  have := h.2.2.1
  omega
theorem ordI.add {o p o' p' : Int → Int} {k c : Int} {B : Nat} (h : ordI o p k B) (c0 : 0 ≤ c) (c1 : c < 8) (hc : B.testBit c.toNat = false) (ho : o' k = c) (ho2 : ∀ j, j ≠ k → o' j = o j) (hp : p' c = k) (hp2 : ∀ l, l ≠ c → p' l = p l) : ordI o' p' (k + 1) (B ||| 2 ^ c.toNat) := by
  have hk := h.lt c0 c1 hc
  obtain ⟨hB, hk0, hcn, h1, h2⟩ := h
  have tb : ∀ l, 0 ≤ l → (B ||| 2 ^ c.toNat).testBit l.toNat = if l = c then true else B.testBit l.toNat := by
    intro l l0
    rw [Nat.testBit_or, Nat.testBit_two_pow]
    by_cases e : l = c
    · subst e; rw [if_pos rfl]; simp
    · rw [if_neg e, decide_eq_false (by omega), Bool.or_false]
  refine ⟨Nat.or_lt_two_pow (n := 8) hB (Nat.pow_lt_pow_right (by decide) (by omega)), by omega, ?_, fun j j0 j1 => ?_, fun l l0 l1 hl => ?_⟩
  · have := cntI_flip (f := fun l => (B ||| 2 ^ c.toNat).testBit l.toNat) (g := fun l => B.testBit l.toNat) (N := 8) c0 c1 (by show _ = true; rw [tb c c0, if_pos rfl]) hc (fun q q0 _ qc => by show _ = (B ||| 2 ^ c.toNat).testBit q.toNat; rw [tb q q0, if_neg qc])
    omega
  · by_cases e : j = k
    · subst e
      rw [ho, hp, tb c c0, if_pos rfl]
      exact ⟨by omega, rfl, rfl⟩
    · obtain ⟨q1, q2, q3⟩ := h1 j j0 (by omega)
      have nc : o j ≠ c := fun z => by rw [z, hc] at q3; exact absurd q3 (by decide)
      rw [ho2 j e, hp2 _ nc, tb _ q1.1, if_neg nc]
      exact ⟨q1, q2, q3⟩
  · by_cases e : l = c
    · subst e; rw [hp]; exact ⟨by omega, ho⟩
    · rw [tb l l0, if_neg e] at hl
      obtain ⟨q1, q2⟩ := h2 l l0 l1 hl
      rw [hp2 l e, ho2 _ (by omega)]
      exact ⟨by omega, q2⟩
theorem ordI.ok {v : CV} {B : Nat} (h : ordI (v 1) (v 2) 8 B) : oOK v := by
  intro i i0 i1
  obtain ⟨q1, q2, -⟩ := h.2.2.2.1 i i0 i1
  obtain ⟨q3, q4⟩ := h.2.2.2.2 i i0 i1 (h.full i0 i1)
  exact ⟨⟨q1, q2⟩, by omega, q4⟩
theorem ordI_0 {o p : Int → Int} : ordI o p 0 0 := ⟨by decide, by decide, by decide, fun j j0 j1 => absurd j1 (by omega), fun l l0 l1 hl => by simp at hl⟩
def drO (s t : Int) (o : Int → Int) (k : Int) (ν : Mem) : Prop := ν 90 0 = s ∧ ν 90 1 = t ∧ (∀ i, 2 ≤ i → i < 5 → ν 90 i = 0) ∧ (∀ j, 0 ≤ j → j < k → ν 90 (5 + j) = o j) ∧ ∀ i, 13 ≤ i → i < 91 → ν 90 i = 0
theorem drO.add {s t k : Int} {o : Int → Int} {ν : Mem} (h : drO s t o k ν) (k0 : 0 ≤ k) (k1 : k < 8) : drO s t o (k + 1) (up ν 90 (5 + k) (o k)) := by
  obtain ⟨h0, h1, h2, h3, h4⟩ := h
  refine ⟨?_, ?_, fun i i0 i1 => ?_, fun j j0 j1 => ?_, fun i i0 i1 => ?_⟩
  · rw [up_off (Or.inr (by omega))]; exact h0
  · rw [up_off (Or.inr (by omega))]; exact h1
  · rw [up_off (Or.inr (by omega))]; exact h2 i i0 i1
  · by_cases e : j = k
    · subst e; exact up_self
    · rw [up_off (Or.inr (by omega))]; exact h3 j j0 (by omega)
  · rw [up_off (Or.inr (by omega))]; exact h4 i i0 i1
section P65
variable {E : Ex} {Q : Option Vl → Mem → Prop} {T : Int → Int} {n a s t : Int}
theorem ref_rest {B : Nat} {m : Int} {ν : Mem} (hB : B < 256) (hw : ν 83 8 = -1) (h : Q none ν) : ∀ L, 0 ≤ L → L ≤ 8 → (∀ l, L ≤ l → l < 8 → B.testBit l.toNat = true) → Gg E 3 M_X8_readsOrder 119 [some (.inr 83), some (.inl (B : Int)), some (.inl m), some (.inl L)] [] ν Q := by
  intro L L0 L8
  refine up_ind (N := 8) (P := fun L => 0 ≤ L → (∀ l, L ≤ l → l < 8 → B.testBit l.toNat = true) → Gg E 3 M_X8_readsOrder 119 [some (.inr 83), some (.inl (B : Int)), some (.inl m), some (.inl L)] [] ν Q) L L8 (fun _ _ => ?_) (fun p p0 p1 ih l0 hb => ?_) L0
  · exact s_X8_readsOrder_119 ⟨by decide, fun _ => h, fun z => absurd (by decide) z⟩
  · have b := hb p (Int.le_refl _) p1
    refine s_X8_readsOrder_119 ⟨by omega, fun z => absurd z (by omega), fun _ => k_X8_wellY hw ⟨_, rfl, fun z => absurd z (by decide), fun _ => ⟨by omega, by omega, fun _ => ih (by omega) (fun l x y => hb l (by omega) y), fun z => ?_⟩⟩⟩
    rw [Int.toNat_natCast, b] at z; exact absurd z (by decide)
theorem rd_fill {B : Nat} (hB : B < 256) (hT : tkOK T n) : ∀ (r : Nat) (L : Int), L + r = 8 → 0 ≤ L → ∀ (m : Int) (B' : Nat) (μ : Mem), ordI (μ (14 + 1)) (μ (14 + 2)) m B' → (∀ l, 0 ≤ l → l < 8 → B'.testBit l.toNat = (B.testBit l.toNat || decide (l < L))) → C7 T n μ a →
    (∀ μ1 : Mem, C7 T n μ1 a → c7R μ μ1 → (∀ k, k ≠ 15 → k ≠ 16 → μ1 k = μ k) → oOK (cv μ1 14) → (∀ j, 0 ≤ j → j < m → μ1 (14 + 1) j = μ (14 + 1) j) → (∀ (ν : Mem) (Q8 : Option Vl → Mem → Prop), ν 83 8 = -1 → drO s t (μ1 (14 + 1)) m ν → (∀ ν1 : Mem, drO s t (μ1 (14 + 1)) 8 ν1 → (∀ k, k ≠ 90 → ν1 k = ν k) → Q8 none ν1) → Gg E 3 M_X8_readsOrder 119 [some (.inr 83), some (.inl (B : Int)), some (.inl m), some (.inl L)] [] ν Q8) → Cl E 2 M_X4_passOver [.inr 2, .inl 59] μ1 (fun vv μ2 => ∃ v3, vv = some (.inl (bi v3)) ∧ Q (some (.inl (bi v3))) μ2)) → Gg E 3 M_X4_readOrder 90 [some (.inr 2), some (.inr 14), some (.inl (B : Int)), some (.inl m), some (.inl L)] [] μ Q := by
  intro r
  induction r with
  | zero =>
    intro L hL L0 m B' μ hO hb hC hq
    have h8 : L = 8 := by omega
    subst h8
    have full : m = 8 := by
      have : cntI (fun l => B'.testBit l.toNat) 8 = cntI (fun _ => true) 8 := cntI_congr (fun l l0 l1 => by rw [hb l l0 l1, decide_eq_true l1, Bool.or_true])
      have k8 : cntI (fun _ => true) 8 = 8 := by decide
      rw [hO.2.2.1, k8] at this
      exact this
    subst full
    exact s_X4_readOrder_90 ⟨by decide, fun _ => hq μ hC c7R.rf (fun _ _ _ => rfl) (hO.ok (v := cv μ 14)) (fun _ _ _ => rfl) (fun ν Q8 hw hd h8 => s_X8_readsOrder_119 ⟨by decide, fun _ => h8 ν hd (fun _ _ => rfl), fun z => absurd (by decide) z⟩), fun z => absurd (by decide) z⟩
  | succ r ih =>
    intro L hL L0 m B' μ hO hb hC hq
    have hm := hO.2.1
    have ba := bit_ask B hB L.toNat (by omega)
    rw [Int.toNat_of_nonneg L0] at ba
    refine s_X4_readOrder_90 ⟨by omega, fun z => absurd z (by omega), fun _ => ⟨by omega, fun z => ?_, fun z => ?_⟩⟩
    · have e8 : m = 8 := by omega
      subst e8
      refine hq μ hC c7R.rf (fun _ _ _ => rfl) (hO.ok (v := cv μ 14)) (fun _ _ _ => rfl) (fun ν Q8 hw hd h8 => ref_rest hB hw (h8 ν hd (fun _ _ => rfl)) L L0 (by omega) (fun l l0 l1 => ?_))
      have f := hO.full (l := l) (by omega) l1
      rw [hb l (by omega) l1, decide_eq_false (by omega), Bool.or_false] at f
      exact f
    · rw [ba]
      have bL := hb L L0 (by omega)
      rw [decide_eq_false (by omega), Bool.or_false] at bL
      refine ⟨bi_inR _, fun y => ?_, fun y => ?_⟩
      · have bt : B.testBit L.toNat = true := by cases e : B.testBit L.toNat; rw [e] at y; exact absurd rfl y; rfl
        refine ih (L + 1) (by omega) (by omega) m B' μ hO (fun l l0 l1 => ?_) hC (fun μ1 c1 r1 k1 o1 j1 f1 => hq μ1 c1 r1 k1 o1 j1 (fun ν Q8 hw hd h8 => ?_))
        · rw [hb l l0 l1]
          by_cases e : l = L
          · subst e; rw [bt]; simp
          · congr 1; exact decide_eq_decide.2 (by omega)
        · exact s_X8_readsOrder_119 ⟨by omega, fun z => absurd z (by omega), fun _ => k_X8_wellY hw ⟨_, rfl, fun z => absurd z (by decide), fun _ => ⟨by omega, by omega, fun _ => f1 ν Q8 hw hd h8, fun z => by rw [Int.toNat_natCast, bt] at z; exact absurd z (by decide)⟩⟩⟩
      · have bf : B.testBit L.toNat = false := by cases e : B.testBit L.toNat; rfl; rw [e] at y; exact absurd y (by decide)
        rw [bf] at bL
        refine ⟨by omega, by omega, fun μ2 e2 => ?_⟩
        have hO2 := hO.add (o' := μ2 (14 + 1)) (p' := μ2 (14 + 2)) L0 (by omega) bL (by rw [e2, up_ne (by decide), up_self]) (fun j hj => by rw [e2, up_ne (by decide), up_off (Or.inr hj)]) (by rw [e2, up_self]) (fun l hl => by rw [e2, up_off (Or.inr hl), up_ne (by decide)])
        have k2 : ∀ k, k ≠ 15 → k ≠ 16 → μ2 k = μ k := fun k x y => by rw [e2, up_ne y, up_ne x]
        have r2 : c7R μ μ2 := by rw [e2]; exact (c7R.upj (j := 1) (by decide) (by omega)).tr (c7R.upj (j := 2) (by decide) (by omega))
        refine ih (L + 1) (by omega) (by omega) (m + 1) _ μ2 hO2 (fun l l0 l1 => ?_) (hC.off (k2 2 (by decide) (by decide)) (k2 3 (by decide) (by decide))) (fun μ1 c1 r1 k1 o1 j1 f1 => hq μ1 c1 (r2.tr r1) (fun k x y => by rw [k1 k x y, k2 k x y]) o1 (fun j j0 hj => ?_) (fun ν Q8 hw hd h8 => ?_))
        · rw [Nat.testBit_or, Nat.testBit_two_pow, hb l l0 l1]
          by_cases e : l = L
          · subst e
            rw [decide_eq_true rfl, decide_eq_true (show l < l + 1 by omega), Bool.or_true, Bool.or_true]
          · rw [decide_eq_false (show ¬ L.toNat = l.toNat by omega), Bool.or_false]
            congr 1; exact decide_eq_decide.2 (by omega)
        · rw [j1 j j0 (by omega), e2, up_ne (by decide), up_off (Or.inr (by omega))]
        · have oL : μ1 (14 + 1) m = L := by rw [j1 m (by omega) (by omega), e2, up_ne (by decide), up_self]
          refine s_X8_readsOrder_119 ⟨by omega, fun z => absurd z (by omega), fun _ => k_X8_wellY hw ⟨_, rfl, fun z => absurd z (by decide), fun _ => ⟨by omega, by omega, fun z => by rw [Int.toNat_natCast, bf] at z; exact absurd z (by decide), fun _ => ⟨by omega, fun μ6 e6 => ?_⟩⟩⟩⟩
          have hd6 := hd.add hO.2.1.1 (by omega)
          rw [oL, ← e6] at hd6
          exact f1 μ6 Q8 (by rw [e6, up_ne (by decide)]; exact hw) hd6 (fun ν1 d1 o1 => h8 ν1 d1 (fun k hk => by rw [o1 k hk, e6, up_ne hk]))
end P65

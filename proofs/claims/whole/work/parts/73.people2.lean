/-! A court is read: the people, one behind another. -/
set_option maxRecDepth 20000 in
theorem s_X4_readPeople {E : Ex} {μ : Mem} {Q : Option Vl → Mem → Prop}  (h : Gg E 4 M_X4_readPeople 2 [some (.inr 2), some (.inr 14), some (.inl 0)] [] μ Q) : Cl E 4 M_X4_readPeople [.inr 2, .inr 14] μ Q := by
  show Gg E 4 M_X4_readPeople 0 [some (.inr 2), some (.inr 14), none] [] μ Q
  refine r_iconst (q := 1) (n := 0) DM_X4_readPeople_0 rfl ?_
  refine v_istoren (q := 2) (ls' := [some (.inr 2), some (.inr 14), some (.inl 0)]) DM_X4_readPeople_1 rfl (by decide) rfl ?_
  exact h
set_option maxRecDepth 20000 in
theorem s_X4_readPeople_2 {E : Ex} {μ : Mem} {Q : Option Vl → Mem → Prop} {x2 : Int}  (h : inR x2 ∧ (x2 ≥ 120 → Q (some (.inl (bi true))) μ) ∧ (¬ x2 ≥ 120 → inR (μ 2 6) ∧ ((μ 2 6) = (-1) → Q (some (.inl (bi true))) μ) ∧ (¬ (μ 2 6) = (-1) → ((μ 2 6) < 112 → Cl E 0 M_X4_hasFault [.inr 2, .inl 1] μ (fun vv μ3 => ∃ v4, vv = some (.inl (bi v4)) ∧ Q (some (.inl (bi v4))) μ3)) ∧ (¬ (μ 2 6) < 112 → ((μ 2 6) ≤ 116 → inR (μ 14 1) ∧ ((μ 14 1) < 6 → Cl E 3 M_X4_readPerson [.inr 2, .inr 14, .inl (μ 14 1)] μ (fun vv μ6 => ∃ v7, vv = some (.inl (bi v7)) ∧ (v7 = true → ∀ μ8 : Mem, μ8 = up μ6 14 1 ((μ6 14 1) + 1) → Gg E 4 M_X4_readPeople 2 [some (.inr 2), some (.inr 14), some (.inl (x2 + 1))] [] μ8 Q) ∧ (v7 = false → Q (some (.inl (bi false))) μ6))) ∧ (¬ (μ 14 1) < 6 → Cl E 0 M_X4_hasFault [.inr 2, .inl 3] μ (fun vv μ9 => ∃ v10, vv = some (.inl (bi v10)) ∧ Q (some (.inl (bi v10))) μ9))) ∧ (¬ (μ 2 6) ≤ 116 → Cl E 0 M_X4_hasFault [.inr 2, .inl 1] μ (fun vv μ11 => ∃ v12, vv = some (.inl (bi v12)) ∧ Q (some (.inl (bi v12))) μ11)))))) : Gg E 4 M_X4_readPeople 2 [some (.inr 2), some (.inr 14), some (.inl x2)] [] μ Q := by
  refine r_iloadn (q := 3) DM_X4_readPeople_2 rfl rfl ?_
  refine r_bipush (q := 5) (n := 120) DM_X4_readPeople_3 rfl (by decide) ?_
  have i1 := h.1
  replace h := h.2
  refine r_icge (q := 8) (t := 85) DM_X4_readPeople_5 rfl (by decide) ⟨⟨i1, (by decide)⟩, fun cc => ?_, fun cc => ?_⟩
  · replace h := h.1 cc
    refine r_iconst (q := 86) (n := 1) DM_X4_readPeople_85 rfl ?_
    exact r_ret (v := some (.inl 1)) ⟨DM_X4_readPeople_86, Or.inr ⟨rfl, Or.inr rfl⟩⟩ h
  · replace h := h.2 cc
    refine r_aloadn (q := 9) DM_X4_readPeople_8 rfl rfl ?_
    refine v_getI (q := 12) (ji := 6) DM_X4_readPeople_9 rfl fRX4_72 sh_2 rfl rfl ?_
    refine r_iconst (q := 13) (n := (-1)) DM_X4_readPeople_12 rfl ?_
    have i2 := h.1
    replace h := h.2
    refine r_iceq (q := 16) (t := 85) DM_X4_readPeople_13 rfl (by decide) ⟨⟨i2, (by decide)⟩, fun cc => ?_, fun cc => ?_⟩
    · replace h := h.1 cc
      refine r_iconst (q := 86) (n := 1) DM_X4_readPeople_85 rfl ?_
      exact r_ret (v := some (.inl 1)) ⟨DM_X4_readPeople_86, Or.inr ⟨rfl, Or.inr rfl⟩⟩ h
    · replace h := h.2 cc
      refine r_aloadn (q := 17) DM_X4_readPeople_16 rfl rfl ?_
      refine v_getI (q := 20) (ji := 6) DM_X4_readPeople_17 rfl fRX4_72 sh_2 rfl rfl ?_
      refine r_bipush (q := 22) (n := 112) DM_X4_readPeople_20 rfl (by decide) ?_
      refine r_iclt (q := 25) (t := 34) DM_X4_readPeople_22 rfl (by decide) ⟨⟨i2, (by decide)⟩, fun cc => ?_, fun cc => ?_⟩
      · replace h := h.1 cc
        refine r_aloadn (q := 35) DM_X4_readPeople_34 rfl rfl ?_
        refine r_iconst (q := 36) (n := 1) DM_X4_readPeople_35 rfl ?_
        refine r_callVi [.inl 1] (q := 39) DM_X4_readPeople_36 rfl kM_X4_hasFault lRX4_65 sh_2 rfl rfl (by decide) (Nat.le_of_ble_eq_true rfl) rfl (Cl.imp h (fun vv μ3 h => ?_))
        obtain ⟨v4, hv, h⟩ := h
        refine ⟨_, hv, ?_⟩
        exact r_ret (v := some (.inl (bi v4))) ⟨DM_X4_readPeople_39, Or.inr ⟨rfl, bi_01 _⟩⟩ h
      · replace h := h.2 cc
        refine r_aloadn (q := 26) DM_X4_readPeople_25 rfl rfl ?_
        refine v_getI (q := 29) (ji := 6) DM_X4_readPeople_26 rfl fRX4_72 sh_2 rfl rfl ?_
        refine r_bipush (q := 31) (n := 116) DM_X4_readPeople_29 rfl (by decide) ?_
        refine r_icle (q := 34) (t := 40) DM_X4_readPeople_31 rfl (by decide) ⟨⟨i2, (by decide)⟩, fun cc => ?_, fun cc => ?_⟩
        · replace h := h.1 cc
          refine r_aloadn (q := 41) DM_X4_readPeople_40 rfl rfl ?_
          refine v_getI (q := 44) (ji := 1) DM_X4_readPeople_41 rfl fRX4_75 (co0 cK_14) rfl rfl ?_
          refine r_bipush (q := 46) (n := 6) DM_X4_readPeople_44 rfl (by decide) ?_
          have i5 := h.1
          replace h := h.2
          refine r_iclt (q := 49) (t := 55) DM_X4_readPeople_46 rfl (by decide) ⟨⟨i5, (by decide)⟩, fun cc => ?_, fun cc => ?_⟩
          · replace h := h.1 cc
            refine r_aloadn (q := 56) DM_X4_readPeople_55 rfl rfl ?_
            refine r_aloadn (q := 57) DM_X4_readPeople_56 rfl rfl ?_
            refine r_aloadn (q := 58) DM_X4_readPeople_57 rfl rfl ?_
            refine v_getI (q := 61) (ji := 1) DM_X4_readPeople_58 rfl fRX4_75 (co0 cK_14) rfl rfl ?_
            refine r_callVi [.inr 14, .inl (μ 14 1)] (q := 64) DM_X4_readPeople_61 rfl kM_X4_readPerson lRX4_78 sh_2 rfl rfl (by decide) (Nat.le_of_ble_eq_true rfl) rfl (Cl.imp h (fun vv μ6 h => ?_))
            obtain ⟨v7, hv, h⟩ := h
            refine ⟨_, hv, ?_⟩
            refine r_bbne (q := 67) (t := 69) DM_X4_readPeople_64 rfl (by decide) ⟨fun cc => ?_, fun cc => ?_⟩
            · replace h := h.1 cc
              refine r_aloadn (q := 70) DM_X4_readPeople_69 rfl rfl ?_
              refine r_dup (q := 71) DM_X4_readPeople_70 rfl ?_
              refine v_getI (q := 74) (ji := 1) DM_X4_readPeople_71 rfl fRX4_75 (co0 cK_14) rfl rfl ?_
              refine r_iconst (q := 75) (n := 1) DM_X4_readPeople_74 rfl ?_
              refine r_iadd (q := 76) DM_X4_readPeople_75 rfl ?_
              refine v_put (q := 79) (ji := 1) DM_X4_readPeople_76 rfl pfRX4_75 (co0 cK_14) rfl rfl (Or.inl rfl) (fun μ8 e8 => ?_)
              replace h := h μ8 e8
              refine v_iinc (q := 82) (ls' := [some (.inr 2), some (.inr 14), some (.inl (x2 + 1))]) DM_X4_readPeople_79 rfl rfl (by decide) rfl ?_
              refine r_goto (q := 2) DM_X4_readPeople_82 (by decide) ?_
              exact h
            · replace h := h.2 cc
              refine r_iconst (q := 68) (n := 0) DM_X4_readPeople_67 rfl ?_
              exact r_ret (v := some (.inl 0)) ⟨DM_X4_readPeople_68, Or.inr ⟨rfl, Or.inl rfl⟩⟩ h
          · replace h := h.2 cc
            refine r_aloadn (q := 50) DM_X4_readPeople_49 rfl rfl ?_
            refine r_iconst (q := 51) (n := 3) DM_X4_readPeople_50 rfl ?_
            refine r_callVi [.inl 3] (q := 54) DM_X4_readPeople_51 rfl kM_X4_hasFault lRX4_65 sh_2 rfl rfl (by decide) (Nat.le_of_ble_eq_true rfl) rfl (Cl.imp h (fun vv μ9 h => ?_))
            obtain ⟨v10, hv, h⟩ := h
            refine ⟨_, hv, ?_⟩
            exact r_ret (v := some (.inl (bi v10))) ⟨DM_X4_readPeople_54, Or.inr ⟨rfl, bi_01 _⟩⟩ h
        · replace h := h.2 cc
          refine r_aloadn (q := 35) DM_X4_readPeople_34 rfl rfl ?_
          refine r_iconst (q := 36) (n := 1) DM_X4_readPeople_35 rfl ?_
          refine r_callVi [.inl 1] (q := 39) DM_X4_readPeople_36 rfl kM_X4_hasFault lRX4_65 sh_2 rfl rfl (by decide) (Nat.le_of_ble_eq_true rfl) rfl (Cl.imp h (fun vv μ11 h => ?_))
          obtain ⟨v12, hv, h⟩ := h
          refine ⟨_, hv, ?_⟩
          exact r_ret (v := some (.inl (bi v12))) ⟨DM_X4_readPeople_39, Or.inr ⟨rfl, bi_01 _⟩⟩ h
theorem pc_one {v w : CV} {p kd k tm lf : Int} (h : pcI v) (hp : p = v 0 1) (h6 : p < 6) (hk : 1 ≤ kd ∧ kd ≤ 5) (hl : 1 ≤ k ∧ k ≤ 4) (ht : 1 ≤ tm ∧ tm ≤ 30) (hf : 1 ≤ lf ∧ lf ≤ 99) (e0 : ∀ i, w 0 i = if i = 1 then p + 1 else v 0 i) (e1 : w 1 = v 1) (e2 : w 2 = v 2) (e8 : w 8 = v 8) (e3 : ∀ i, w 3 i = if i = p then kd else v 3 i) (e4 : ∀ i, w 4 i = if i = p then k else v 4 i) (e5 : ∀ i, (i < p * 4 ∨ p * 4 + k ≤ i) → w 5 i = v 5 i) (f5 : ∀ i, 0 ≤ i → i < k → 0 ≤ w 5 (p * 4 + i) ∧ w 5 (p * 4 + i) ≤ 7) (e6 : ∀ i, w 6 i = if i = p then tm else v 6 i) (e7 : ∀ i, w 7 i = if i = p then lf else v 7 i) : pcI w := by
  obtain ⟨c0, c2, c3, c1, c4, c5, co, c8, cp⟩ := h
  refine ⟨by rw [e0, if_neg (by decide)]; exact c0, by rw [e0, if_neg (by decide)]; exact c2, by rw [e0, if_neg (by decide)]; exact c3, by rw [e0, if_pos rfl]; omega, by rw [e0, if_neg (by decide)]; exact c4, by rw [e0, if_neg (by decide)]; exact c5, ?_, by rw [e8]; exact c8, fun q q0 q1 => ?_⟩
  · unfold oOK at co ⊢; rw [e1, e2]; exact co
  · rw [e0, if_pos rfl] at q1
    unfold pOK
    rw [e3, e4, e6, e7]
    by_cases e : q = p
    · subst e
      rw [if_pos rfl, if_pos rfl, if_pos rfl, if_pos rfl]
      exact ⟨hk, hl, ht, hf, f5⟩
    · rw [if_neg e, if_neg e, if_neg e, if_neg e]
      obtain ⟨a1, a2, a3, a4, a5⟩ := cp q q0 (by omega)
      exact ⟨a1, a2, a3, a4, fun i i0 i1 => by rw [e5 _ (by omega)]; exact a5 i i0 i1⟩
theorem dP_off {d : Int → Int} {x kd k tm lf i : Int} (h2 : i ≠ 2) (h : i < x ∨ x + 13 ≤ i) : dP d x kd k tm lf i = d i := by
  unfold dP
  rw [if_neg h2, if_neg (by omega), if_neg (by omega), if_neg (by omega), if_neg (by omega), if_neg (by omega), if_neg (by omega), if_neg (by omega), if_neg (by omega), if_neg (by omega)]
theorem dN_off {d f : Int → Int} {x k i : Int} (hk : k ≤ 4) (h : i < x ∨ x + 13 ≤ i) : dN d x k f i = d i := by unfold dN; rw [if_neg (by omega)]
theorem dP_nm {d : Int → Int} {x kd k tm lf i : Int} (hx : 13 ≤ x) (h : x + 4 ≤ i ∧ i < x + 8) : dP d x kd k tm lf i = d i := by
  unfold dP
  rw [if_neg (by omega), if_neg (by omega), if_neg (by omega), if_neg (by omega), if_neg (by omega), if_neg (by omega), if_neg (by omega), if_neg (by omega), if_neg (by omega), if_neg (by omega)]
theorem pd_one {v w : CV} {d : Int → Int} {p kd k tm lf : Int} (hc : pcI v) (h : pdI v d) (hp : p = v 0 1) (h6 : p < 6) (hk : 1 ≤ kd ∧ kd ≤ 5) (hl : 1 ≤ k ∧ k ≤ 4) (ht : 1 ≤ tm ∧ tm ≤ 30) (hf : 1 ≤ lf ∧ lf ≤ 99) (e0 : ∀ i, w 0 i = if i = 1 then p + 1 else v 0 i) (e1 : w 1 = v 1) (e3 : ∀ i, w 3 i = if i = p then kd else v 3 i) (e4 : ∀ i, w 4 i = if i = p then k else v 4 i) (e5 : ∀ i, (i < p * 4 ∨ p * 4 + k ≤ i) → w 5 i = v 5 i) (f5 : ∀ i, 0 ≤ i → i < k → 0 ≤ w 5 (p * 4 + i) ∧ w 5 (p * 4 + i) ≤ 7) (e6 : ∀ i, w 6 i = if i = p then tm else v 6 i) (e7 : ∀ i, w 7 i = if i = p then lf else v 7 i) : pdI w (dP (dN d (13 + 13 * p) k (fun i => w 5 (p * 4 + i))) (13 + 13 * p) kd k tm lf) := by
  have c1 := hc.2.2.2.1
  obtain ⟨d0, d1, d2, d3, d4, d5, dp, dr⟩ := h
  have low : ∀ i, i ≠ 2 → i < 13 + 13 * p → dP (dN d (13 + 13 * p) k (fun i => w 5 (p * 4 + i))) (13 + 13 * p) kd k tm lf i = d i := fun i i2 hi => by rw [dP_off i2 (Or.inl hi), dN_off hl.2 (Or.inl hi)]
  refine ⟨?_, ?_, ?_, ?_, ?_, fun i i0 i1 => ?_, fun q q0 q1 => ?_, fun i i0 i1 => ?_⟩
  · rw [low 0 (by decide) (by omega), e0, if_neg (by decide)]; exact d0
  · rw [low 1 (by decide) (by omega), e0, if_neg (by decide)]; exact d1
  · unfold dP; rw [if_pos rfl, dN_off hl.2 (Or.inl (by omega)), e0, if_pos rfl, d2, hp]
  · rw [low 3 (by decide) (by omega)]; exact d3
  · rw [low 4 (by decide) (by omega)]; exact d4
  · rw [low _ (by omega) (by omega), e1]; exact d5 i i0 i1
  · rw [e0, if_pos rfl] at q1
    unfold pdR
    rw [e3, e4, e6, e7]
    by_cases e : q = p
    · subst e
      rw [if_pos rfl, if_pos rfl, if_pos rfl, if_pos rfl]
      refine ⟨?_, ?_, ?_, ?_, fun i i0 i1 => ?_, ?_, ?_, ?_, ?_, ?_⟩
      rotate_left 4
      · rw [dP_nm (by omega) (by omega)]; unfold dN; rw [if_pos (by omega)]; congr 1; omega
      all_goals (unfold dP; repeat (first | rw [if_pos (by omega)] | rw [if_neg (by omega)]))
    · rw [if_neg e, if_neg e, if_neg e, if_neg e]
      obtain ⟨a0, a1, a2, a3, a4, a8, a9, a10, a11, a12⟩ := dp q q0 (by omega)
      have l4 := (hc.2.2.2.2.2.2.2.2 q q0 (by omega)).2.1
      refine ⟨?_, ?_, ?_, ?_, fun i i0 i1 => ?_, ?_, ?_, ?_, ?_, ?_⟩
      rotate_left 4
      · rw [low _ (by omega) (by omega), a4 i i0 i1, e5 _ (by omega)]
      all_goals (rw [low _ (by omega) (by omega)]; assumption)
  · by_cases hi : i < 13 + 13 * p ∨ 13 + 13 * p + 13 ≤ i
    · by_cases i2 : i = 2
      · subst i2; unfold dP; rw [if_pos rfl, dN_off hl.2 (Or.inl (by omega)), d2]; omega
      · rw [dP_off i2 hi, dN_off hl.2 hi]; exact dr i i0 i1
    · by_cases hn : 13 + 13 * p + 4 ≤ i ∧ i < 13 + 13 * p + 8
      · rw [dP_nm (by omega) hn]
        unfold dN
        by_cases c : 13 + 13 * p + 4 ≤ i ∧ i < 13 + 13 * p + 4 + k
        · rw [if_pos c]; have := f5 (i - (13 + 13 * p + 4)) (by omega) (by omega); show -2000000 ≤ w 5 (p * 4 + (i - (13 + 13 * p + 4))) ∧ w 5 (p * 4 + (i - (13 + 13 * p + 4))) ≤ 2000000; omega
        · rw [if_neg c]; exact dr i i0 i1
      · unfold dP
        repeat (first | omega | split)

/-! The reference: a day goes by. -/
set_option maxRecDepth 20000 in
theorem s_X8_ages {E : Ex} {μ : Mem} {Q : Option Vl → Mem → Prop} {k : Nat} (hk : shp k = (0, 91, [])) (h : ∀ μ1 : Mem, μ1 = up μ k 3 ((μ k 3) + 1) → Gg E 0 M_X8_ages 9 [some (.inr k), some (.inl 0), none] [] μ1 Q) : Cl E 0 M_X8_ages [.inr k] μ Q := by
  show Gg E 0 M_X8_ages 0 [some (.inr k), none, none] [] μ Q
  refine r_aloadn (q := 1) DM_X8_ages_0 rfl rfl ?_
  refine r_iconst (q := 2) (n := 3) DM_X8_ages_1 rfl ?_
  refine r_dup2 (q := 3) DM_X8_ages_2 rfl ?_
  refine r_iald (q := 4) DM_X8_ages_3 rfl hk (by decide) ⟨by decide, ?_⟩
  refine r_iconst (q := 5) (n := 1) DM_X8_ages_4 rfl ?_
  refine r_iadd (q := 6) DM_X8_ages_5 rfl ?_
  refine v_iast (q := 7) DM_X8_ages_6 rfl hk (by decide) ⟨by decide, fun μ1 e1 => ?_⟩
  replace h := h μ1 e1
  refine r_iconst (q := 8) (n := 0) DM_X8_ages_7 rfl ?_
  refine v_istoren (q := 9) (ls' := [some (.inr k), some (.inl 0), none]) DM_X8_ages_8 rfl (by decide) rfl ?_
  exact h
set_option maxRecDepth 20000 in
theorem s_X8_ages_9 {E : Ex} {μ : Mem} {Q : Option Vl → Mem → Prop} {x1 : Int} {k : Nat} (hk : shp k = (0, 91, [])) (h : inR x1 ∧ inR (μ k 2) ∧ (x1 ≥ (μ k 2) → Q none μ) ∧ (¬ x1 ≥ (μ k 2) → (0 ≤ ((13 + (13 * x1)) + 8) ∧ ((13 + (13 * x1)) + 8) < 91) ∧ inR (μ k ((13 + (13 * x1)) + 8)) ∧ ((μ k ((13 + (13 * x1)) + 8)) ≠ 1 → ((μ k ((13 + (13 * x1)) + 8)) ≠ 0 → Gg E 0 M_X8_ages 9 [some (.inr k), some (.inl (x1 + 1)), none] [] μ Q) ∧ ((μ k ((13 + (13 * x1)) + 8)) = 0 → (0 ≤ ((13 + (13 * x1)) + 2) ∧ ((13 + (13 * x1)) + 2) < 91) ∧ inR (μ k 3) ∧ inR (μ k ((13 + (13 * x1)) + 2)) ∧ ((μ k 3) < (μ k ((13 + (13 * x1)) + 2)) → Gg E 0 M_X8_ages 9 [some (.inr k), some (.inl (x1 + 1)), none] [] μ Q) ∧ (¬ (μ k 3) < (μ k ((13 + (13 * x1)) + 2)) → ∀ μ8 : Mem, μ8 = up μ k ((13 + (13 * x1)) + 8) 3 → (0 ≤ ((13 + (13 * x1)) + 12) ∧ ((13 + (13 * x1)) + 12) < 91) ∧ ∀ μ9 : Mem, μ9 = up μ8 k ((13 + (13 * x1)) + 12) (μ8 k 3) → Gg E 0 M_X8_ages 9 [some (.inr k), some (.inl (x1 + 1)), none] [] μ9 Q))) ∧ ((μ k ((13 + (13 * x1)) + 8)) = 1 → (0 ≤ ((13 + (13 * x1)) + 9) ∧ ((13 + (13 * x1)) + 9) < 91) ∧ ∀ μ12 : Mem, μ12 = up μ k ((13 + (13 * x1)) + 9) ((μ k ((13 + (13 * x1)) + 9)) - 1) → inR (μ12 k ((13 + (13 * x1)) + 9)) ∧ ((μ12 k ((13 + (13 * x1)) + 9)) ≠ 0 → Gg E 0 M_X8_ages 9 [some (.inr k), some (.inl (x1 + 1)), none] [] μ12 Q) ∧ ((μ12 k ((13 + (13 * x1)) + 9)) = 0 → ∀ μ14 : Mem, μ14 = up μ12 k ((13 + (13 * x1)) + 8) 2 → (0 ≤ ((13 + (13 * x1)) + 11) ∧ ((13 + (13 * x1)) + 11) < 91) ∧ ∀ μ15 : Mem, μ15 = up μ14 k ((13 + (13 * x1)) + 11) (μ14 k 3) → Gg E 0 M_X8_ages 9 [some (.inr k), some (.inl (x1 + 1)), none] [] μ15 Q)))) : Gg E 0 M_X8_ages 9 [some (.inr k), some (.inl x1), none] [] μ Q := by
  refine r_iloadn (q := 10) DM_X8_ages_9 rfl rfl ?_
  refine r_aloadn (q := 11) DM_X8_ages_10 rfl rfl ?_
  refine r_iconst (q := 12) (n := 2) DM_X8_ages_11 rfl ?_
  refine r_iald (q := 13) DM_X8_ages_12 rfl hk (by decide) ⟨by decide, ?_⟩
  have i1 := h.1
  replace h := h.2
  have i2 := h.1
  replace h := h.2
  refine r_icge (q := 16) (t := 114) DM_X8_ages_13 rfl (by decide) ⟨⟨i1, i2⟩, fun cc => ?_, fun cc => ?_⟩
  · replace h := h.1 cc
    exact r_ret (v := none) ⟨DM_X8_ages_114, rfl⟩ h
  · replace h := h.2 cc
    refine r_bipush (q := 18) (n := 13) DM_X8_ages_16 rfl (by decide) ?_
    refine r_bipush (q := 20) (n := 13) DM_X8_ages_18 rfl (by decide) ?_
    refine r_iloadn (q := 21) DM_X8_ages_20 rfl rfl ?_
    refine r_imul (q := 22) DM_X8_ages_21 rfl ?_
    refine r_iadd (q := 23) DM_X8_ages_22 rfl ?_
    refine v_istoren (q := 24) (ls' := [some (.inr k), some (.inl x1), some (.inl (13 + (13 * x1)))]) DM_X8_ages_23 rfl (by decide) rfl ?_
    refine r_aloadn (q := 25) DM_X8_ages_24 rfl rfl ?_
    refine r_iloadn (q := 26) DM_X8_ages_25 rfl rfl ?_
    refine r_bipush (q := 28) (n := 8) DM_X8_ages_26 rfl (by decide) ?_
    refine r_iadd (q := 29) DM_X8_ages_28 rfl ?_
    refine r_iald (q := 30) DM_X8_ages_29 rfl hk (by decide) ⟨h.1, ?_⟩
    have i3 := h.1
    replace h := h.2
    refine r_iconst (q := 31) (n := 1) DM_X8_ages_30 rfl ?_
    have i4 := h.1
    replace h := h.2
    refine r_icne (q := 34) (t := 72) DM_X8_ages_31 rfl (by decide) ⟨⟨i4, (by decide)⟩, fun cc => ?_, fun cc => ?_⟩
    · replace h := h.1 cc
      refine r_aloadn (q := 73) DM_X8_ages_72 rfl rfl ?_
      refine r_iloadn (q := 74) DM_X8_ages_73 rfl rfl ?_
      refine r_bipush (q := 76) (n := 8) DM_X8_ages_74 rfl (by decide) ?_
      refine r_iadd (q := 77) DM_X8_ages_76 rfl ?_
      refine r_iald (q := 78) DM_X8_ages_77 rfl hk (by decide) ⟨i3, ?_⟩
      refine r_ifne (q := 81) (t := 108) DM_X8_ages_78 rfl (by decide) ⟨i4, fun cc => ?_, fun cc => ?_⟩
      · replace h := h.1 cc
        refine v_iinc (q := 111) (ls' := [some (.inr k), some (.inl (x1 + 1)), some (.inl (13 + (13 * x1)))]) DM_X8_ages_108 rfl rfl (by decide) rfl ?_
        refine r_goto (q := 9) DM_X8_ages_111 (by decide) ?_
        exact Gg.weak [true, true, false] h
      · replace h := h.2 cc
        refine r_aloadn (q := 82) DM_X8_ages_81 rfl rfl ?_
        refine r_iconst (q := 83) (n := 3) DM_X8_ages_82 rfl ?_
        refine r_iald (q := 84) DM_X8_ages_83 rfl hk (by decide) ⟨by decide, ?_⟩
        refine r_aloadn (q := 85) DM_X8_ages_84 rfl rfl ?_
        refine r_iloadn (q := 86) DM_X8_ages_85 rfl rfl ?_
        refine r_iconst (q := 87) (n := 2) DM_X8_ages_86 rfl ?_
        refine r_iadd (q := 88) DM_X8_ages_87 rfl ?_
        refine r_iald (q := 89) DM_X8_ages_88 rfl hk (by decide) ⟨h.1, ?_⟩
        have i5 := h.1
        replace h := h.2
        have i6 := h.1
        replace h := h.2
        have i7 := h.1
        replace h := h.2
        refine r_iclt (q := 92) (t := 108) DM_X8_ages_89 rfl (by decide) ⟨⟨i6, i7⟩, fun cc => ?_, fun cc => ?_⟩
        · replace h := h.1 cc
          refine v_iinc (q := 111) (ls' := [some (.inr k), some (.inl (x1 + 1)), some (.inl (13 + (13 * x1)))]) DM_X8_ages_108 rfl rfl (by decide) rfl ?_
          refine r_goto (q := 9) DM_X8_ages_111 (by decide) ?_
          exact Gg.weak [true, true, false] h
        · replace h := h.2 cc
          refine r_aloadn (q := 93) DM_X8_ages_92 rfl rfl ?_
          refine r_iloadn (q := 94) DM_X8_ages_93 rfl rfl ?_
          refine r_bipush (q := 96) (n := 8) DM_X8_ages_94 rfl (by decide) ?_
          refine r_iadd (q := 97) DM_X8_ages_96 rfl ?_
          refine r_iconst (q := 98) (n := 3) DM_X8_ages_97 rfl ?_
          refine v_iast (q := 99) DM_X8_ages_98 rfl hk (by decide) ⟨i3, fun μ8 e8 => ?_⟩
          replace h := h μ8 e8
          refine r_aloadn (q := 100) DM_X8_ages_99 rfl rfl ?_
          refine r_iloadn (q := 101) DM_X8_ages_100 rfl rfl ?_
          refine r_bipush (q := 103) (n := 12) DM_X8_ages_101 rfl (by decide) ?_
          refine r_iadd (q := 104) DM_X8_ages_103 rfl ?_
          refine r_aloadn (q := 105) DM_X8_ages_104 rfl rfl ?_
          refine r_iconst (q := 106) (n := 3) DM_X8_ages_105 rfl ?_
          refine r_iald (q := 107) DM_X8_ages_106 rfl hk (by decide) ⟨by decide, ?_⟩
          refine v_iast (q := 108) DM_X8_ages_107 rfl hk (by decide) ⟨h.1, fun μ9 e9 => ?_⟩
          have i10 := h.1
          replace h := h.2 μ9 e9
          refine v_iinc (q := 111) (ls' := [some (.inr k), some (.inl (x1 + 1)), some (.inl (13 + (13 * x1)))]) DM_X8_ages_108 rfl rfl (by decide) rfl ?_
          refine r_goto (q := 9) DM_X8_ages_111 (by decide) ?_
          exact Gg.weak [true, true, false] h
    · replace h := h.2 cc
      refine r_aloadn (q := 35) DM_X8_ages_34 rfl rfl ?_
      refine r_iloadn (q := 36) DM_X8_ages_35 rfl rfl ?_
      refine r_bipush (q := 38) (n := 9) DM_X8_ages_36 rfl (by decide) ?_
      refine r_iadd (q := 39) DM_X8_ages_38 rfl ?_
      refine r_dup2 (q := 40) DM_X8_ages_39 rfl ?_
      refine r_iald (q := 41) DM_X8_ages_40 rfl hk (by decide) ⟨h.1, ?_⟩
      have i11 := h.1
      replace h := h.2
      refine r_iconst (q := 42) (n := 1) DM_X8_ages_41 rfl ?_
      refine r_isub (q := 43) DM_X8_ages_42 rfl ?_
      refine v_iast (q := 44) DM_X8_ages_43 rfl hk (by decide) ⟨i11, fun μ12 e12 => ?_⟩
      replace h := h μ12 e12
      refine r_aloadn (q := 45) DM_X8_ages_44 rfl rfl ?_
      refine r_iloadn (q := 46) DM_X8_ages_45 rfl rfl ?_
      refine r_bipush (q := 48) (n := 9) DM_X8_ages_46 rfl (by decide) ?_
      refine r_iadd (q := 49) DM_X8_ages_48 rfl ?_
      refine r_iald (q := 50) DM_X8_ages_49 rfl hk (by decide) ⟨i11, ?_⟩
      have i13 := h.1
      replace h := h.2
      refine r_ifne (q := 53) (t := 108) DM_X8_ages_50 rfl (by decide) ⟨i13, fun cc => ?_, fun cc => ?_⟩
      · replace h := h.1 cc
        refine v_iinc (q := 111) (ls' := [some (.inr k), some (.inl (x1 + 1)), some (.inl (13 + (13 * x1)))]) DM_X8_ages_108 rfl rfl (by decide) rfl ?_
        refine r_goto (q := 9) DM_X8_ages_111 (by decide) ?_
        exact Gg.weak [true, true, false] h
      · replace h := h.2 cc
        refine r_aloadn (q := 54) DM_X8_ages_53 rfl rfl ?_
        refine r_iloadn (q := 55) DM_X8_ages_54 rfl rfl ?_
        refine r_bipush (q := 57) (n := 8) DM_X8_ages_55 rfl (by decide) ?_
        refine r_iadd (q := 58) DM_X8_ages_57 rfl ?_
        refine r_iconst (q := 59) (n := 2) DM_X8_ages_58 rfl ?_
        refine v_iast (q := 60) DM_X8_ages_59 rfl hk (by decide) ⟨i3, fun μ14 e14 => ?_⟩
        replace h := h μ14 e14
        refine r_aloadn (q := 61) DM_X8_ages_60 rfl rfl ?_
        refine r_iloadn (q := 62) DM_X8_ages_61 rfl rfl ?_
        refine r_bipush (q := 64) (n := 11) DM_X8_ages_62 rfl (by decide) ?_
        refine r_iadd (q := 65) DM_X8_ages_64 rfl ?_
        refine r_aloadn (q := 66) DM_X8_ages_65 rfl rfl ?_
        refine r_iconst (q := 67) (n := 3) DM_X8_ages_66 rfl ?_
        refine r_iald (q := 68) DM_X8_ages_67 rfl hk (by decide) ⟨by decide, ?_⟩
        refine v_iast (q := 69) DM_X8_ages_68 rfl hk (by decide) ⟨h.1, fun μ15 e15 => ?_⟩
        have i16 := h.1
        replace h := h.2 μ15 e15
        refine r_goto (q := 108) DM_X8_ages_69 (by decide) ?_
        refine v_iinc (q := 111) (ls' := [some (.inr k), some (.inl (x1 + 1)), some (.inl (13 + (13 * x1)))]) DM_X8_ages_108 rfl rfl (by decide) rfl ?_
        refine r_goto (q := 9) DM_X8_ages_111 (by decide) ?_
        exact Gg.weak [true, true, false] h
set_option maxRecDepth 20000 in
theorem s_X8_seats {E : Ex} {μ : Mem} {Q : Option Vl → Mem → Prop} {x1 : Int} {k : Nat} (hk : shp k = (0, 91, [])) (h : (0 ≤ ((13 + (13 * x1)) + 8) ∧ ((13 + (13 * x1)) + 8) < 91) ∧ ∀ μ1 : Mem, μ1 = up μ k ((13 + (13 * x1)) + 8) 1 → (0 ≤ ((13 + (13 * x1)) + 1) ∧ ((13 + (13 * x1)) + 1) < 91) ∧ (0 ≤ ((13 + (13 * x1)) + 9) ∧ ((13 + (13 * x1)) + 9) < 91) ∧ ∀ μ4 : Mem, μ4 = up μ1 k ((13 + (13 * x1)) + 9) (μ1 k ((13 + (13 * x1)) + 1)) → (0 ≤ ((13 + (13 * x1)) + 10) ∧ ((13 + (13 * x1)) + 10) < 91) ∧ ∀ μ6 : Mem, μ6 = up μ4 k ((13 + (13 * x1)) + 10) (μ4 k 3) → Q none μ6) : Cl E 0 M_X8_seats [.inr k, .inl x1] μ Q := by
  show Gg E 0 M_X8_seats 0 [some (.inr k), some (.inl x1), none] [] μ Q
  refine r_bipush (q := 2) (n := 13) DM_X8_seats_0 rfl (by decide) ?_
  refine r_bipush (q := 4) (n := 13) DM_X8_seats_2 rfl (by decide) ?_
  refine r_iloadn (q := 5) DM_X8_seats_4 rfl rfl ?_
  refine r_imul (q := 6) DM_X8_seats_5 rfl ?_
  refine r_iadd (q := 7) DM_X8_seats_6 rfl ?_
  refine v_istoren (q := 8) (ls' := [some (.inr k), some (.inl x1), some (.inl (13 + (13 * x1)))]) DM_X8_seats_7 rfl (by decide) rfl ?_
  refine r_aloadn (q := 9) DM_X8_seats_8 rfl rfl ?_
  refine r_iloadn (q := 10) DM_X8_seats_9 rfl rfl ?_
  refine r_bipush (q := 12) (n := 8) DM_X8_seats_10 rfl (by decide) ?_
  refine r_iadd (q := 13) DM_X8_seats_12 rfl ?_
  refine r_iconst (q := 14) (n := 1) DM_X8_seats_13 rfl ?_
  refine v_iast (q := 15) DM_X8_seats_14 rfl hk (by decide) ⟨h.1, fun μ1 e1 => ?_⟩
  have i2 := h.1
  replace h := h.2 μ1 e1
  refine r_aloadn (q := 16) DM_X8_seats_15 rfl rfl ?_
  refine r_iloadn (q := 17) DM_X8_seats_16 rfl rfl ?_
  refine r_bipush (q := 19) (n := 9) DM_X8_seats_17 rfl (by decide) ?_
  refine r_iadd (q := 20) DM_X8_seats_19 rfl ?_
  refine r_aloadn (q := 21) DM_X8_seats_20 rfl rfl ?_
  refine r_iloadn (q := 22) DM_X8_seats_21 rfl rfl ?_
  refine r_iconst (q := 23) (n := 1) DM_X8_seats_22 rfl ?_
  refine r_iadd (q := 24) DM_X8_seats_23 rfl ?_
  refine r_iald (q := 25) DM_X8_seats_24 rfl hk (by decide) ⟨h.1, ?_⟩
  have i3 := h.1
  replace h := h.2
  refine v_iast (q := 26) DM_X8_seats_25 rfl hk (by decide) ⟨h.1, fun μ4 e4 => ?_⟩
  have i5 := h.1
  replace h := h.2 μ4 e4
  refine r_aloadn (q := 27) DM_X8_seats_26 rfl rfl ?_
  refine r_iloadn (q := 28) DM_X8_seats_27 rfl rfl ?_
  refine r_bipush (q := 30) (n := 10) DM_X8_seats_28 rfl (by decide) ?_
  refine r_iadd (q := 31) DM_X8_seats_30 rfl ?_
  refine r_aloadn (q := 32) DM_X8_seats_31 rfl rfl ?_
  refine r_iconst (q := 33) (n := 3) DM_X8_seats_32 rfl ?_
  refine r_iald (q := 34) DM_X8_seats_33 rfl hk (by decide) ⟨by decide, ?_⟩
  refine v_iast (q := 35) DM_X8_seats_34 rfl hk (by decide) ⟨h.1, fun μ6 e6 => ?_⟩
  have i7 := h.1
  replace h := h.2 μ6 e6
  exact r_ret (v := none) ⟨DM_X8_seats_35, rfl⟩ h
theorem VC_day {v : CV} {d : Int} (h : VC v) (hd : 0 ≤ d ∧ d ≤ 1500) (hs : v 0 0 = 1) : VC (upv v 0 4 d) := by
  obtain ⟨h0, h1, h3, h4, h5, hp⟩ := h
  refine ⟨Or.inr ?_, ?_, ?_, ?_, ?_, ?_⟩
  · rcases h0 with q | q
    · omega
    · exact q
  · exact h1
  · exact h3
  · rw [upv_self]; exact hd
  · exact h5
  · exact hp
theorem VC_seat {v : CV} {p d : Int} (h : VC v) : VC (upv v 8 p d) := VC_ext (fun i _ => by rw [upv_ne (by decide)]) (fun j _ h2 => by rw [upv_ne (by omega)]) h
theorem VC_stands {v : CV} (h : VC v) (hp : 0 < v 0 1) : v 0 0 = 1 := by
  rcases h.1 with q | q
  · omega
  · exact q.1
section C33
variable {E : Ex} {μ : Mem} {Q : Option Vl → Mem → Prop} {k : Nat} {v : CV} {a b x p l n i s d t : Int}
/-- the row but for the people from p on is that of the next day -/
theorem ages_step {a a' : Int → Int} {v : CV} {p : Int} (h : rP v a p) (ok : pOK v p) (o : ∀ i, 13 + 13 * p ≤ i → (i < 13 + 13 * p + 8 ∨ i = 13 + 13 * p + 10) → a' i = a i)
    (h8 : a' (13 + 13 * p + 8) = cState v p (v 0 4 + 1)) (h9 : a' (13 + 13 * p + 9) = (if cState v p (v 0 4 + 1) = 1 then v 8 p + v 6 p - (v 0 4 + 1) else 0)) (h11 : a' (13 + 13 * p + 11) = (if cState v p (v 0 4 + 1) = 2 then v 8 p + v 6 p else -1000000)) (h12 : a' (13 + 13 * p + 12) = (if cState v p (v 0 4 + 1) = 3 then v 7 p else -1000000)) : rP (upv v 0 4 (v 0 4 + 1)) a' p := by
  obtain ⟨e0, e1, e2, e3, e4, -, -, e10, -, -⟩ := h
  have c : ∀ d, cState (upv v 0 4 (v 0 4 + 1)) p d = cState v p d := fun d => rfl
  have dd : upv v 0 4 (v 0 4 + 1) 0 4 = v 0 4 + 1 := upv_self
  refine ⟨?_, ?_, ?_, ?_, fun i i0 i1 => ?_, ?_, ?_, ?_, ?_, ?_⟩
  · rw [o _ (by omega) (by omega)]; exact e0
  · rw [o _ (by omega) (by omega)]; exact e1
  · rw [o _ (by omega) (by omega)]; exact e2
  · rw [o _ (by omega) (by omega)]; exact e3
  · have l4 := ok.2.1
    have i1' : i < v 4 p := i1
    rw [o _ (by omega) (by omega)]; exact e4 i i0 i1
  · rw [dd, c]; exact h8
  · rw [dd, c]; exact h9
  · rw [o _ (by omega) (by omega)]; exact e10
  · rw [dd, c]; exact h11
  · rw [dd, c]; exact h12
theorem k_X8_ages (hk : shp k = (0, 91, [])) (hR : Rel v (μ k)) (hd : v 0 4 < 1500) (hs : v 0 0 = 1) (h : ∀ μ1 : Mem, (Rel (upv v 0 4 (v 0 4 + 1)) (μ1 k) ∧ ∀ j, j ≠ k → μ1 j = μ j) → Q none μ1) : Cl E 0 M_X8_ages [.inr k] μ Q := by
  have hn := hR.n
  obtain ⟨⟨a0, a1, a2, a3, a4, a5, ap⟩, hV, hg, hSC⟩ := id hR
  have v4 := hV.2.2.2.1
  refine s_X8_ages hk (fun μ1 e1 => ?_)
  -- the invariant at person p
  suffices hh : ∀ p, 0 ≤ p → p ≤ v 0 1 → ∀ μ' : Mem, (∀ j, j ≠ k → μ' j = μ j) → (∀ i, i < 13 + 13 * p → i < 13 → i ≠ 3 → μ' k i = μ k i) → μ' k 3 = v 0 4 + 1 → (∀ i, 13 + 13 * p ≤ i → μ' k i = μ k i) → (∀ q, 0 ≤ q → q < p → rP (upv v 0 4 (v 0 4 + 1)) (μ' k) q) → RgA (μ' k) → Gg E 0 M_X8_ages 9 [some (.inr k), some (.inl p), none] [] μ' Q by
    refine hh 0 (Int.le_refl 0) hn.1 μ1 (fun j hj => by rw [e1, up_ne hj]) (fun i _ _ h3 => by rw [e1, up_off (Or.inr h3)]) (by rw [e1, up_self, a3]) (fun i hi => by rw [e1, up_off (Or.inr (by omega))]) (fun q h1 h2 => by omega) ?_
    intro i
    rw [e1]
    by_cases h3 : i = 3
    · subst h3; rw [up_self, a3]; omega
    · rw [up_off (Or.inr h3)]; exact hg i
  intro p0 hp0 hp1
  refine up_ind (N := v 0 1) (P := fun p => ∀ μ' : Mem, (∀ j, j ≠ k → μ' j = μ j) → (∀ i, i < 13 + 13 * p → i < 13 → i ≠ 3 → μ' k i = μ k i) → μ' k 3 = v 0 4 + 1 → (∀ i, 13 + 13 * p ≤ i → μ' k i = μ k i) → (∀ q, 0 ≤ q → q < p → rP (upv v 0 4 (v 0 4 + 1)) (μ' k) q) → RgA (μ' k) → Gg E 0 M_X8_ages 9 [some (.inr k), some (.inl p), none] [] μ' Q) p0 hp1 ?_ ?_
  · intro μ' o1 o2 o3 o4 o5 o6
    have f2 : μ' k 2 = v 0 1 := by rw [o2 2 (by omega) (by decide) (by decide), a2]
    refine s_X8_ages_9 hk ⟨by omega, by omega, fun _ => h μ' ⟨⟨⟨?_, ?_, ?_, ?_, ?_, fun i i0 i1 => ?_, fun q q0 q1 => o5 q q0 q1⟩, VC_day hV (by omega) hs, o6, fun q q0 q1 => by have := hSC q q0 q1; rw [upv_self]; show v 8 q = -1000000 ∨ (1 ≤ v 8 q ∧ v 8 q ≤ v 0 4 + 1); omega⟩, o1⟩, fun z => absurd (show v 0 1 ≥ μ' k 2 by omega) z⟩
    · rw [o2 0 (by omega) (by decide) (by decide)]; exact a0
    · rw [o2 1 (by omega) (by decide) (by decide)]; exact a1
    · exact f2
    · rw [o3, upv_self]
    · rw [o2 4 (by omega) (by decide) (by decide)]; exact a4
    · rw [o2 (5 + i) (by omega) (by omega) (by omega)]; exact a5 i i0 i1
  · intro p q1 q2 ih μ' o1 o2 o3 o4 o5 o6
    have hp := ap p (by omega) q2
    have ok := hR.ok (p := p) (by omega) q2
    obtain ⟨e0, et, el, e3, en, e8, e9, e10, e11, e12⟩ := id hp
    have f2 : μ' k 2 = v 0 1 := by rw [o2 2 (by omega) (by decide) (by decide), a2]
    have w : ∀ i, 13 + 13 * p ≤ i → μ' k i = μ k i := o4
    have r := cState_rng (v := v) (p := p) (d := v 0 4)
    have okt := ok.2.2.1
    have okl := ok.2.2.2.1
    have g8 := hSC p (by omega) q2
    have c1 : ∀ d, cState v p d = 1 → v 8 p ≠ -1000000 ∧ d < v 8 p + v 6 p := fun d hq => by unfold cState at hq; split at hq <;> split at hq <;> omega
    have c2 : ∀ d, cState v p d = 2 → v 8 p ≠ -1000000 ∧ ¬ d < v 8 p + v 6 p := fun d hq => by unfold cState at hq; split at hq <;> split at hq <;> omega
    have c3 : ∀ d, cState v p d = 3 → v 8 p = -1000000 ∧ ¬ d < v 7 p := fun d hq => by unfold cState at hq; split at hq <;> split at hq <;> omega
    have c0 : ∀ d, cState v p d = 0 → v 8 p = -1000000 ∧ d < v 7 p := fun d hq => by unfold cState at hq; split at hq <;> split at hq <;> omega
    have m0 : ∀ d, v 8 p = -1000000 → d < v 7 p → cState v p d = 0 := fun d h1 h2 => by unfold cState; rw [if_pos h1, if_pos h2]
    have m3 : ∀ d, v 8 p = -1000000 → ¬ d < v 7 p → cState v p d = 3 := fun d h1 h2 => by unfold cState; rw [if_pos h1, if_neg h2]
    have m1 : ∀ d, v 8 p ≠ -1000000 → d < v 8 p + v 6 p → cState v p d = 1 := fun d h1 h2 => by unfold cState; rw [if_neg h1, if_pos h2]
    have m2 : ∀ d, v 8 p ≠ -1000000 → ¬ d < v 8 p + v 6 p → cState v p d = 2 := fun d h1 h2 => by unfold cState; rw [if_neg h1, if_neg h2]
    have w8 : μ' k (13 + 13 * p + 8) = cState v p (v 0 4) := (w _ (by omega)).trans e8
    have w9 := (w (13 + 13 * p + 9) (by omega)).trans e9
    have w11 := (w (13 + 13 * p + 11) (by omega)).trans e11
    have w12 := (w (13 + 13 * p + 12) (by omega)).trans e12
    have wl : μ' k (13 + 13 * p + 2) = v 7 p := (w _ (by omega)).trans el
    -- what a step gives
    have step : ∀ μ2 : Mem, (∀ j, j ≠ k → μ2 j = μ' j) → (∀ i, (i < 13 + 13 * p + 8 ∨ 13 + 13 * p + 12 < i ∨ i = 13 + 13 * p + 10) → μ2 k i = μ' k i) → μ2 k (13 + 13 * p + 8) = cState v p (v 0 4 + 1) → μ2 k (13 + 13 * p + 9) = (if cState v p (v 0 4 + 1) = 1 then v 8 p + v 6 p - (v 0 4 + 1) else 0) → μ2 k (13 + 13 * p + 11) = (if cState v p (v 0 4 + 1) = 2 then v 8 p + v 6 p else -1000000) → μ2 k (13 + 13 * p + 12) = (if cState v p (v 0 4 + 1) = 3 then v 7 p else -1000000) → Gg E 0 M_X8_ages 9 [some (.inr k), some (.inl (p + 1)), none] [] μ2 Q := by
      intro μ2 s1 s2 s8 s9 s11 s12
      have r2 := cState_rng (v := v) (p := p) (d := v 0 4 + 1)
      refine ih μ2 (fun j hj => by rw [s1 j hj, o1 j hj]) (fun i i1 i2 i3 => ?_) ?_ (fun i hi => ?_) (fun q h0 h1 => ?_) (fun i => ?_)
      · rw [s2 i (by omega)]; exact o2 i (by omega) i2 i3
      · rw [s2 3 (by omega), o3]
      · rw [s2 i (by omega), w i (by omega)]
      · by_cases hq : q = p
        · subst hq
          exact ages_step (a := μ k) hp ok (fun i hi2 hi => by rw [s2 i (by omega), w i hi2]) s8 s9 s11 s12
        · have := o5 q h0 (by omega)
          obtain ⟨t0, t1, t2, t3, t4, t8, t9, t10, t11, t12⟩ := this
          have ql : q + 1 ≤ p := by omega
          have lq := (hR.ok (p := q) h0 (by omega)).2.1
          refine ⟨?_, ?_, ?_, ?_, fun i i0 i1 => ?_, ?_, ?_, ?_, ?_, ?_⟩
          · rw [s2 _ (by omega)]; exact t0
          · rw [s2 _ (by omega)]; exact t1
          · rw [s2 _ (by omega)]; exact t2
          · rw [s2 _ (by omega)]; exact t3
          · have i1' : i < v 4 q := i1
            rw [s2 _ (by omega)]; exact t4 i i0 i1
          · rw [s2 _ (by omega)]; exact t8
          · rw [s2 _ (by omega)]; exact t9
          · rw [s2 _ (by omega)]; exact t10
          · rw [s2 _ (by omega)]; exact t11
          · rw [s2 _ (by omega)]; exact t12
      · by_cases h8 : i = 13 + 13 * p + 8
        · subst h8; rw [s8]; omega
        · by_cases h9 : i = 13 + 13 * p + 9
          · subst h9; rw [s9]; split
            · next q => have := c1 _ q; omega
            · omega
          · by_cases h11 : i = 13 + 13 * p + 11
            · subst h11; rw [s11]; split
              · next q => have := c2 _ q; omega
              · omega
            · by_cases h12 : i = 13 + 13 * p + 12
              · subst h12; rw [s12]; split <;> omega
              · rw [s2 i (by omega)]; exact o6 i
    refine s_X8_ages_9 hk ⟨by omega, by omega, fun z => absurd z (by omega), fun _ => ⟨by omega, by rw [w8]; omega, fun z1 => ⟨fun z0 => ?_, fun z0 => ⟨by omega, by rw [o3]; omega, by rw [wl]; omega, fun z2 => ?_, fun z2 μ8 e8' => ⟨by omega, fun μ9 e9' => ?_⟩⟩⟩, fun z1 => ⟨by omega, fun μ12 e12' => ⟨?_, fun z2 => ?_, fun z2 μ14 e14 => ⟨by omega, fun μ15 e15 => ?_⟩⟩⟩⟩⟩
    · rw [w8] at z1 z0
      have hS : cState v p (v 0 4 + 1) = cState v p (v 0 4) := by
        rcases (show cState v p (v 0 4) = 2 ∨ cState v p (v 0 4) = 3 by omega) with q | q
        · rw [q]; exact m2 _ (c2 _ q).1 (by have := (c2 _ q).2; omega)
        · rw [q]; exact m3 _ (c3 _ q).1 (by have := (c3 _ q).2; omega)
      refine step μ' (fun _ _ => rfl) (fun _ _ => rfl) (by rw [hS]; exact w8) ?_ (by rw [hS]; exact w11) (by rw [hS]; exact w12)
      rw [hS, w9, if_neg z1, if_neg z1]
    · rw [w8] at z0
      rw [o3, wl] at z2
      have hS : cState v p (v 0 4 + 1) = 0 := m0 _ (c0 _ z0).1 z2
      rw [z0] at w8 w9 w11 w12
      exact step μ' (fun _ _ => rfl) (fun _ _ => rfl) (by rw [hS]; exact w8) (by rw [hS]; exact w9) (by rw [hS]; exact w11) (by rw [hS]; exact w12)
    · rw [w8] at z0
      rw [o3, wl] at z2
      have hc := c0 _ z0
      have hS : cState v p (v 0 4 + 1) = 3 := m3 _ hc.1 z2
      rw [z0] at w9 w11
      have k3 : μ8 k 3 = v 0 4 + 1 := by rw [e8', up_off (Or.inr (by omega)), o3]
      refine step μ9 (fun j hj => by rw [e9', up_ne hj, e8', up_ne hj]) (fun i hi => by rw [e9', up_off (Or.inr (by omega)), e8', up_off (Or.inr (by omega))]) ?_ ?_ ?_ ?_
      · rw [hS, e9', up_off (Or.inr (by omega)), e8', up_self]
      · rw [hS, e9', up_off (Or.inr (by omega)), e8', up_off (Or.inr (by omega)), w9]; rfl
      · rw [hS, e9', up_off (Or.inr (by omega)), e8', up_off (Or.inr (by omega)), w11]; rfl
      · rw [hS, e9', up_self, k3]; show _ = v 7 p; omega
    · rw [w8] at z1
      rw [z1, if_pos rfl] at w9
      have hc := c1 _ z1
      rw [e12', up_self, w9]; omega
    · rw [w8] at z1
      rw [z1] at w9 w11 w12
      rw [if_pos rfl] at w9
      have hc := c1 _ z1
      rw [e12', up_self, w9] at z2
      have hS : cState v p (v 0 4 + 1) = 1 := m1 _ hc.1 (by omega)
      refine step μ12 (fun j hj => by rw [e12', up_ne hj]) (fun i hi => by rw [e12', up_off (Or.inr (by omega))]) ?_ ?_ ?_ ?_
      · rw [hS, e12', up_off (Or.inr (by omega)), w8]; exact z1
      · rw [hS, e12', up_self, w9, if_pos rfl]; omega
      · rw [hS, e12', up_off (Or.inr (by omega)), w11]
      · rw [hS, e12', up_off (Or.inr (by omega)), w12]
    · rw [w8] at z1
      rw [z1] at w9 w11 w12
      rw [if_pos rfl] at w9
      have hc := c1 _ z1
      rw [e12', up_self, w9] at z2
      have hS : cState v p (v 0 4 + 1) = 2 := m2 _ hc.1 (by omega)
      have k3 : μ14 k 3 = v 0 4 + 1 := by rw [e14, up_off (Or.inr (by omega)), e12', up_off (Or.inr (by omega)), o3]
      refine step μ15 (fun j hj => by rw [e15, up_ne hj, e14, up_ne hj, e12', up_ne hj]) (fun i hi => by rw [e15, up_off (Or.inr (by omega)), e14, up_off (Or.inr (by omega)), e12', up_off (Or.inr (by omega))]) ?_ ?_ ?_ ?_
      · rw [hS, e15, up_off (Or.inr (by omega)), e14, up_self]
      · rw [hS, e15, up_off (Or.inr (by omega)), e14, up_off (Or.inr (by omega)), e12', up_self, w9]; show _ = (0 : Int); omega
      · rw [hS, e15, up_self, k3]; show _ = v 8 p + v 6 p; omega
      · rw [hS, e15, up_off (Or.inr (by omega)), e14, up_off (Or.inr (by omega)), e12', up_off (Or.inr (by omega)), w12]; rfl
theorem k_X8_seats (hk : shp k = (0, 91, [])) (hR : Rel v (μ k)) (hp : 0 ≤ p ∧ p < v 0 1) (hw : cWait v p (v 0 4) = true) (hd : 1 ≤ v 0 4) (h : ∀ μ1 : Mem, (Rel (upv v 8 p (v 0 4)) (μ1 k) ∧ ∀ j, j ≠ k → μ1 j = μ j) → Q none μ1) : Cl E 0 M_X8_seats [.inr k, .inl p] μ Q := by
  have hn := hR.n
  obtain ⟨⟨a0, a1, a2, a3, a4, a5, ap⟩, hV, hg, hSC⟩ := id hR
  have ok := hR.ok hp.1 hp.2
  have v4 := hV.2.2.2.1
  have okt := ok.2.2.1
  have l4 := ok.2.1
  obtain ⟨e0, et, el, e3, en, e8, e9, e10, e11, e12⟩ := hR.p hp.1 hp.2
  have c0 := cState_wait.mpr hw
  refine s_X8_seats hk ⟨by omega, fun μ1 e1 => ⟨by omega, by omega, fun μ4 e4 => ⟨by omega, fun μ6 e6 => h μ6 ⟨?_, fun j hj => by rw [e6, up_ne hj, e4, up_ne hj, e1, up_ne hj]⟩⟩⟩⟩
  have k1 : μ1 k (13 + 13 * p + 1) = v 6 p := by rw [e1, up_off (Or.inr (by omega)), et]
  have k3 : μ4 k 3 = v 0 4 := by rw [e4, up_off (Or.inr (by omega)), e1, up_off (Or.inr (by omega)), a3]
  have o : ∀ i, i ≠ 13 + 13 * p + 8 → i ≠ 13 + 13 * p + 9 → i ≠ 13 + 13 * p + 10 → μ6 k i = μ k i := fun i h1 h2 h3 => by rw [e6, up_off (Or.inr h3), e4, up_off (Or.inr h2), e1, up_off (Or.inr h1)]
  have o8 : μ6 k (13 + 13 * p + 8) = 1 := by rw [e6, up_off (Or.inr (by omega)), e4, up_off (Or.inr (by omega)), e1, up_self]
  have o9 : μ6 k (13 + 13 * p + 9) = v 6 p := by rw [e6, up_off (Or.inr (by omega)), e4, up_self, k1]
  have o10 : μ6 k (13 + 13 * p + 10) = v 0 4 := by rw [e6, up_self, k3]
  have hcs : cState (upv v 8 p (v 0 4)) p (v 0 4) = 1 := by
    unfold cState
    rw [upv_self, if_neg (by omega), if_pos (by rw [upv_ne (by decide)]; omega)]
  refine ⟨⟨?_, ?_, ?_, ?_, ?_, fun i i0 i1 => ?_, fun q q0 q1 => ?_⟩, VC_seat hV, fun i => ?_, fun q q0 q1 => ?_⟩
  · rw [o 0 (by omega) (by omega) (by omega)]; exact a0
  · rw [o 1 (by omega) (by omega) (by omega)]; exact a1
  · rw [o 2 (by omega) (by omega) (by omega)]; exact a2
  · rw [o 3 (by omega) (by omega) (by omega)]; exact a3
  · rw [o 4 (by omega) (by omega) (by omega)]; exact a4
  · rw [o (5 + i) (by omega) (by omega) (by omega)]; exact a5 i i0 i1
  · by_cases hq : q = p
    · subst hq
      have dd : upv v 8 q (v 0 4) 0 4 = v 0 4 := rfl
      refine ⟨?_, ?_, ?_, ?_, fun i i0 i1 => ?_, ?_, ?_, ?_, ?_, ?_⟩
      · rw [o _ (by omega) (by omega) (by omega)]; exact e0
      · rw [o _ (by omega) (by omega) (by omega)]; exact et
      · rw [o _ (by omega) (by omega) (by omega)]; exact el
      · rw [o _ (by omega) (by omega) (by omega)]; exact e3
      · have i1' : i < v 4 q := i1
        rw [o _ (by omega) (by omega) (by omega)]; exact en i i0 i1
      · rw [o8, dd, hcs]
      · rw [o9, dd, hcs, if_pos rfl, upv_self, upv_ne (by decide)]; omega
      · rw [o10, upv_self]
      · rw [o _ (by omega) (by omega) (by omega), e11, dd, hcs, c0]; rfl
      · rw [o _ (by omega) (by omega) (by omega), e12, dd, hcs, c0]; rfl
    · have q1' : q < v 0 1 := q1
      obtain ⟨t0, t1, t2, t3, t4, t8, t9, t10, t11, t12⟩ := ap q q0 q1'
      have lq := (hR.ok (p := q) q0 q1').2.1
      have s8 : upv v 8 p (v 0 4) 8 q = v 8 q := upv_i hq
      have sc : cState (upv v 8 p (v 0 4)) q (v 0 4) = cState v q (v 0 4) := by unfold cState; rw [s8]; rfl
      have dd : upv v 8 p (v 0 4) 0 4 = v 0 4 := rfl
      refine ⟨?_, ?_, ?_, ?_, fun i i0 i1 => ?_, ?_, ?_, ?_, ?_, ?_⟩
      · rw [o _ (by omega) (by omega) (by omega)]; exact t0
      · rw [o _ (by omega) (by omega) (by omega)]; exact t1
      · rw [o _ (by omega) (by omega) (by omega)]; exact t2
      · rw [o _ (by omega) (by omega) (by omega)]; exact t3
      · have i1' : i < v 4 q := i1
        rw [o _ (by omega) (by omega) (by omega)]; exact t4 i i0 i1
      · rw [o _ (by omega) (by omega) (by omega), dd, sc]; exact t8
      · rw [o _ (by omega) (by omega) (by omega), dd, sc, s8]; exact t9
      · rw [o _ (by omega) (by omega) (by omega), s8]; exact t10
      · rw [o _ (by omega) (by omega) (by omega), dd, sc, s8]; exact t11
      · rw [o _ (by omega) (by omega) (by omega), dd, sc]; exact t12
  · by_cases h8 : i = 13 + 13 * p + 8
    · subst h8; rw [o8]; omega
    · by_cases h9 : i = 13 + 13 * p + 9
      · subst h9; rw [o9]; omega
      · by_cases h10 : i = 13 + 13 * p + 10
        · subst h10; rw [o10]; omega
        · rw [o i h8 h9 h10]; exact hg i
  · by_cases hq : q = p
    · subst hq; rw [upv_self]; show v 0 4 = -1000000 ∨ (1 ≤ v 0 4 ∧ v 0 4 ≤ v 0 4); omega
    · rw [upv_i hq]; exact hSC q q0 q1
end C33

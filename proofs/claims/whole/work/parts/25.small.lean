/-! Row, Acts, Asks, kinds. -/
def aAct (μ : Mem) (j : Int) : Int × Int × Int × Int := (μ 26 ((μ 25 4 + j) % 24), μ 27 ((μ 25 4 + j) % 24), μ 28 ((μ 25 4 + j) % 24), μ 29 ((μ 25 4 + j) % 24))
def unA (v : CV) (a : Int × Int × Int × Int) : CV := if a.1 = 0 then upv (tbC v (v 0 1)) 0 4 (v 0 4 - 1) else if a.1 = 1 then upv v 5 (a.2.1 * 4 + a.2.2.1) a.2.2.2 else upv v 0 5 (jxor (v 0 5) (jshl 1 a.2.2.2))
/-- an act is kept -/
def kpA (μ μ1 : Mem) (a : Int × Int × Int × Int) : Prop := (∀ k, (k < 25 ∨ 30 ≤ k) → μ1 k = μ k) ∧ (0 ≤ μ1 25 4 ∧ μ1 25 4 < 24) ∧ μ1 25 5 = (if μ 25 5 < 24 then μ 25 5 + 1 else 24) ∧ (∀ j, 0 ≤ j → j < μ1 25 5 - 1 → aAct μ1 j = aAct μ (if μ 25 5 < 24 then j else j + 1)) ∧ aAct μ1 (μ1 25 5 - 1) = a
/-- the latest act is taken back -/
def bkA (μ μ1 : Mem) : Prop := (∀ k, (k < 4 ∨ 14 ≤ k) → k ≠ 25 → μ1 k = μ k) ∧ μ1 25 4 = μ 25 4 ∧ μ1 25 5 = μ 25 5 - 1 ∧ cv μ1 4 = fun j => if j < 10 then unA (cv μ 4) (aAct μ (μ 25 5 - 1)) j else cv μ1 4 j
section C25
variable {E : Ex} {μ : Mem} {Q : Option Vl → Mem → Prop} {r : Nat} {a b x p l n i v s : Int}
def rCut (l v : Int) : Int := if l = 0 then jbyte v else if l = 1 then jshort v else v
theorem k_X6_cut (hr : roS r) (hl : inR (μ r 1)) (h : Q (some (.inl (rCut (μ r 1) v))) μ) : Cl E 0 M_X6_cut [.inr r, .inl v] μ Q := by
  unfold rCut at h
  refine s_X6_cut hr ⟨hl, fun z => ?_, fun z => ?_, fun z => ?_⟩
  · rwa [if_pos z] at h
  · rwa [if_neg (by omega), if_pos z] at h
  · rwa [if_neg z.1, if_neg z.2] at h
theorem k_X6_begin (hr : roS r) (h : ∀ μ1 : Mem, (μ1 r 1 = l ∧ μ1 r 2 = n ∧ (∀ i, μ1 (r + 1) i = 0) ∧ ∀ k, k ≠ r → k ≠ r + 1 → μ1 k = μ k) → Q none μ1) : Cl E 0 M_X6_begin [.inr r, .inl l, .inl n] μ Q := by
  refine Cl.agr (s_X6_begin hr (fun μ1 e1 μ2 e2 => ?_))
  suffices hh : ∀ μ' : Mem, (∀ i, 0 ≤ i → i < 0 → μ' (r + 1) i = 0) → (∀ k, k ≠ r + 1 → μ' k = μ2 k) → Gg E 0 M_X6_begin 12 [some (.inr r), some (.inl l), some (.inl n), some (.inl 0)] [] μ' (fun v μ' => ∃ μ'', agr μ' μ'' ∧ Q v μ'') from hh μ2 (fun i h1 h2 => by omega) (fun k _ => rfl)
  refine up_ind (N := 40) (P := fun p => ∀ μ' : Mem, (∀ i, 0 ≤ i → i < p → μ' (r + 1) i = 0) → (∀ k, k ≠ r + 1 → μ' k = μ2 k) → Gg E 0 M_X6_begin 12 [some (.inr r), some (.inl l), some (.inl n), some (.inl p)] [] μ' (fun v μ' => ∃ μ'', agr μ' μ'' ∧ Q v μ'')) 0 (by decide) (fun μ' h1 h2 => ?_) (fun p q1 q2 ih μ' h1 h2 => ?_)
  · refine s_X6_begin_12 hr ⟨by decide, fun _ => ⟨fun k i => if k = r + 1 then 0 else μ2 k i, ?_, h _ ⟨?_, ?_, fun i => if_pos rfl, fun k k1 k2 => ?_⟩⟩, fun z => absurd (Int.le_refl _) z⟩
    · intro k i hk i0 i1
      dsimp only
      by_cases hk8 : k = r + 1
      · subst hk8
        rw [ro1 hr] at i1
        rw [if_pos rfl, h1 i i0 (by simpa using i1)]
      · rw [if_neg hk8, h2 k hk8]
    · rw [if_neg (by omega), e2, up_off (Or.inr (by decide)), e1, up_self]
    · rw [if_neg (by omega), e2, up_self]
    · funext i; rw [if_neg k2, e2, up_ne k1, e1, up_ne k1]
  · refine s_X6_begin_12 hr ⟨by omega, fun z => absurd z (by omega), fun _ => ⟨by omega, fun μ3 e3 => ih μ3 (fun i i0 i1 => ?_) (fun k hk => by rw [e3, up_ne hk, h2 k hk])⟩⟩
    rw [e3]
    by_cases hip : i = p
    · subst hip; exact up_self
    · rw [up_off (Or.inr hip)]; exact h1 i i0 (by omega)
set_option maxRecDepth 20000 in
theorem s_X0_forgetAll {E : Ex} {μ : Mem} {Q : Option Vl → Mem → Prop}  (h : ∀ μ1 : Mem, μ1 = up μ 25 5 0 → Q none μ1) : Cl E 0 M_X0_forgetAll [.inr 25] μ Q := by
  show Gg E 0 M_X0_forgetAll 0 [some (.inr 25)] [] μ Q
  refine r_aloadn (q := 1) DM_X0_forgetAll_0 rfl rfl ?_
  refine r_iconst (q := 2) (n := 0) DM_X0_forgetAll_1 rfl ?_
  refine v_put (q := 5) (ji := 5) DM_X0_forgetAll_2 rfl pfRX0_24 sh_25 rfl rfl (Or.inl rfl) (fun μ1 e1 => ?_)
  replace h := h μ1 e1
  exact r_ret (v := none) ⟨DM_X0_forgetAll_5, rfl⟩ h
theorem k_X0_forgetAll (h : ∀ μ1 : Mem, μ1 = up μ 25 5 0 → Q none μ1) : Cl E 0 M_X0_forgetAll [.inr 25] μ Q := s_X0_forgetAll h
set_option maxRecDepth 20000 in
theorem s_X0_latestPlace {E : Ex} {μ : Mem} {Q : Option Vl → Mem → Prop}  (h : Q (some (.inl (jrem (((μ 25 4) + (μ 25 5)) - 1) 24))) μ) : Cl E 0 M_X0_latestPlace [.inr 25] μ Q := by
  show Gg E 0 M_X0_latestPlace 0 [some (.inr 25)] [] μ Q
  refine r_aloadn (q := 1) DM_X0_latestPlace_0 rfl rfl ?_
  refine v_getI (q := 4) (ji := 4) DM_X0_latestPlace_1 rfl fRX0_32 sh_25 rfl rfl ?_
  refine r_aloadn (q := 5) DM_X0_latestPlace_4 rfl rfl ?_
  refine v_getI (q := 8) (ji := 5) DM_X0_latestPlace_5 rfl fRX0_24 sh_25 rfl rfl ?_
  refine r_iadd (q := 9) DM_X0_latestPlace_8 rfl ?_
  refine r_iconst (q := 10) (n := 1) DM_X0_latestPlace_9 rfl ?_
  refine r_isub (q := 11) DM_X0_latestPlace_10 rfl ?_
  refine r_bipush (q := 13) (n := 24) DM_X0_latestPlace_11 rfl (by decide) ?_
  refine r_irem (q := 14) DM_X0_latestPlace_13 rfl (by decide) ?_
  exact r_ret (v := some (.inl (jrem (((μ 25 4) + (μ 25 5)) - 1) 24))) ⟨DM_X0_latestPlace_14, Or.inl rfl⟩ h
theorem k_X0_latestPlace (h1 : 0 ≤ μ 25 4 ∧ μ 25 4 < 24) (h2 : 1 ≤ μ 25 5 ∧ μ 25 5 ≤ 24) (h : Q (some (.inl ((μ 25 4 + (μ 25 5 - 1)) % 24))) μ) : Cl E 0 M_X0_latestPlace [.inr 25] μ Q := by
  refine s_X0_latestPlace ?_
  rwa [jrem_pos (by omega) (by omega) (by decide) (by decide), show μ 25 4 + μ 25 5 - 1 = μ 25 4 + (μ 25 5 - 1) by omega]
set_option maxRecDepth 20000 in
theorem s_X0_keep {E : Ex} {μ : Mem} {Q : Option Vl → Mem → Prop} {x1 x2 x3 x4 : Int}  (h : inR (μ 25 5) ∧ ((μ 25 5) ≥ 24 → ∀ μ2 : Mem, μ2 = up μ 25 4 (jrem ((μ 25 4) + 1) 24) → Gg E 1 M_X0_keep 35 [some (.inr 25), some (.inl x1), some (.inl x2), some (.inl x3), some (.inl x4), none] [] μ2 Q) ∧ (¬ (μ 25 5) ≥ 24 → ∀ μ3 : Mem, μ3 = up μ 25 5 ((μ 25 5) + 1) → Gg E 1 M_X0_keep 35 [some (.inr 25), some (.inl x1), some (.inl x2), some (.inl x3), some (.inl x4), none] [] μ3 Q)) : Cl E 1 M_X0_keep [.inr 25, .inl x1, .inl x2, .inl x3, .inl x4] μ Q := by
  show Gg E 1 M_X0_keep 0 [some (.inr 25), some (.inl x1), some (.inl x2), some (.inl x3), some (.inl x4), none] [] μ Q
  refine r_aloadn (q := 1) DM_X0_keep_0 rfl rfl ?_
  refine v_getI (q := 4) (ji := 5) DM_X0_keep_1 rfl fRX0_24 sh_25 rfl rfl ?_
  refine r_bipush (q := 6) (n := 24) DM_X0_keep_4 rfl (by decide) ?_
  have i1 := h.1
  replace h := h.2
  refine r_icge (q := 9) (t := 22) DM_X0_keep_6 rfl (by decide) ⟨⟨i1, (by decide)⟩, fun cc => ?_, fun cc => ?_⟩
  · replace h := h.1 cc
    refine r_aloadn (q := 23) DM_X0_keep_22 rfl rfl ?_
    refine r_aloadn (q := 24) DM_X0_keep_23 rfl rfl ?_
    refine v_getI (q := 27) (ji := 4) DM_X0_keep_24 rfl fRX0_32 sh_25 rfl rfl ?_
    refine r_iconst (q := 28) (n := 1) DM_X0_keep_27 rfl ?_
    refine r_iadd (q := 29) DM_X0_keep_28 rfl ?_
    refine r_bipush (q := 31) (n := 24) DM_X0_keep_29 rfl (by decide) ?_
    refine r_irem (q := 32) DM_X0_keep_31 rfl (by decide) ?_
    refine v_put (q := 35) (ji := 4) DM_X0_keep_32 rfl pfRX0_32 sh_25 rfl rfl (Or.inl rfl) (fun μ2 e2 => ?_)
    replace h := h μ2 e2
    exact h
  · replace h := h.2 cc
    refine r_aloadn (q := 10) DM_X0_keep_9 rfl rfl ?_
    refine r_dup (q := 11) DM_X0_keep_10 rfl ?_
    refine v_getI (q := 14) (ji := 5) DM_X0_keep_11 rfl fRX0_24 sh_25 rfl rfl ?_
    refine r_iconst (q := 15) (n := 1) DM_X0_keep_14 rfl ?_
    refine r_iadd (q := 16) DM_X0_keep_15 rfl ?_
    refine v_put (q := 19) (ji := 5) DM_X0_keep_16 rfl pfRX0_24 sh_25 rfl rfl (Or.inl rfl) (fun μ3 e3 => ?_)
    replace h := h μ3 e3
    refine r_goto (q := 35) DM_X0_keep_19 (by decide) ?_
    exact h
set_option maxRecDepth 20000 in
theorem s_X0_keep_35 {E : Ex} {μ : Mem} {Q : Option Vl → Mem → Prop} {x1 x2 x3 x4 : Int}  (h : (0 ≤ μ 25 4 ∧ μ 25 4 < 24) ∧ (1 ≤ μ 25 5 ∧ μ 25 5 ≤ 24) ∧ (0 ≤ ((μ 25 4 + (μ 25 5 - 1)) % 24) ∧ ((μ 25 4 + (μ 25 5 - 1)) % 24) < 24) ∧ ∀ μ3 : Mem, μ3 = up μ 26 ((μ 25 4 + (μ 25 5 - 1)) % 24) x1 → ∀ μ5 : Mem, μ5 = up μ3 27 ((μ 25 4 + (μ 25 5 - 1)) % 24) x2 → ∀ μ6 : Mem, μ6 = up μ5 28 ((μ 25 4 + (μ 25 5 - 1)) % 24) x3 → ∀ μ7 : Mem, μ7 = up μ6 29 ((μ 25 4 + (μ 25 5 - 1)) % 24) x4 → Q none μ7) : Gg E 1 M_X0_keep 35 [some (.inr 25), some (.inl x1), some (.inl x2), some (.inl x3), some (.inl x4), none] [] μ Q := by
  refine r_aloadn (q := 36) DM_X0_keep_35 rfl rfl ?_
  have i1 := h.1
  replace h := h.2
  have i2 := h.1
  replace h := h.2
  refine r_callVi [] (q := 39) DM_X0_keep_36 rfl kM_X0_latestPlace lRX0_35 sh_25 rfl rfl (by decide) (Nat.le_of_ble_eq_true rfl) rfl (k_X0_latestPlace i1 i2 ⟨_, rfl, ?_⟩)
  refine v_istore (q := 41) (ls' := [some (.inr 25), some (.inl x1), some (.inl x2), some (.inl x3), some (.inl x4), some (.inl ((μ 25 4 + (μ 25 5 - 1)) % 24))]) DM_X0_keep_39 rfl (by decide) rfl ?_
  refine r_aloadn (q := 42) DM_X0_keep_41 rfl rfl ?_
  refine r_getR (q := 45) (r := 26) DM_X0_keep_42 rfl fRX0_9 sh_25 rfl ?_
  refine r_iload (q := 47) DM_X0_keep_45 rfl rfl ?_
  refine r_iloadn (q := 48) DM_X0_keep_47 rfl rfl ?_
  refine v_iast (q := 49) DM_X0_keep_48 rfl sh_26 (by decide) ⟨h.1, fun μ3 e3 => ?_⟩
  have i4 := h.1
  replace h := h.2 μ3 e3
  refine r_aloadn (q := 50) DM_X0_keep_49 rfl rfl ?_
  refine r_getR (q := 53) (r := 27) DM_X0_keep_50 rfl fRX0_15 sh_25 rfl ?_
  refine r_iload (q := 55) DM_X0_keep_53 rfl rfl ?_
  refine r_iloadn (q := 56) DM_X0_keep_55 rfl rfl ?_
  refine v_iast (q := 57) DM_X0_keep_56 rfl sh_27 (by decide) ⟨i4, fun μ5 e5 => ?_⟩
  replace h := h μ5 e5
  refine r_aloadn (q := 58) DM_X0_keep_57 rfl rfl ?_
  refine r_getR (q := 61) (r := 28) DM_X0_keep_58 rfl fRX0_18 sh_25 rfl ?_
  refine r_iload (q := 63) DM_X0_keep_61 rfl rfl ?_
  refine r_iloadn (q := 64) DM_X0_keep_63 rfl rfl ?_
  refine v_iast (q := 65) DM_X0_keep_64 rfl sh_28 (by decide) ⟨i4, fun μ6 e6 => ?_⟩
  replace h := h μ6 e6
  refine r_aloadn (q := 66) DM_X0_keep_65 rfl rfl ?_
  refine r_getR (q := 69) (r := 29) DM_X0_keep_66 rfl fRX0_21 sh_25 rfl ?_
  refine r_iload (q := 71) DM_X0_keep_69 rfl rfl ?_
  refine r_iload (q := 73) DM_X0_keep_71 rfl rfl ?_
  refine v_iast (q := 74) DM_X0_keep_73 rfl sh_29 (by decide) ⟨i4, fun μ7 e7 => ?_⟩
  replace h := h μ7 e7
  exact r_ret (v := none) ⟨DM_X0_keep_74, rfl⟩ h
theorem keep_end {μ0 μ2 : Mem} (h1 : 0 ≤ μ2 25 4 ∧ μ2 25 4 < 24) (h2 : 1 ≤ μ2 25 5 ∧ μ2 25 5 ≤ 24) (h : ∀ μ1 : Mem, μ1 = up (up (up (up μ2 26 ((μ2 25 4 + (μ2 25 5 - 1)) % 24) s) 27 ((μ2 25 4 + (μ2 25 5 - 1)) % 24) p) 28 ((μ2 25 4 + (μ2 25 5 - 1)) % 24) i) 29 ((μ2 25 4 + (μ2 25 5 - 1)) % 24) l → Q none μ1) : Gg E 1 M_X0_keep 35 [some (.inr 25), some (.inl s), some (.inl p), some (.inl i), some (.inl l), none] [] μ2 Q :=
  s_X0_keep_35 ⟨h1, h2, by omega, fun μ3 e3 μ4 e4 μ5 e5 μ6 e6 => h μ6 (by rw [e6, e5, e4, e3])⟩
theorem k_X0_keep (h1 : 0 ≤ μ 25 4 ∧ μ 25 4 < 24) (h2 : 0 ≤ μ 25 5 ∧ μ 25 5 ≤ 24) (h : ∀ μ1 : Mem, kpA μ μ1 (s, p, i, l) → Q none μ1) : Cl E 1 M_X0_keep [.inr 25, .inl s, .inl p, .inl i, .inl l] μ Q := by
  have fin : ∀ μ2 : Mem, (∀ k, k ≠ 25 → μ2 k = μ k) → (0 ≤ μ2 25 4 ∧ μ2 25 4 < 24) → μ2 25 5 = (if μ 25 5 < 24 then μ 25 5 + 1 else 24) → (∀ j, 0 ≤ j → j < μ2 25 5 - 1 → (μ2 25 4 + j) % 24 = (μ 25 4 + (if μ 25 5 < 24 then j else j + 1)) % 24) → Gg E 1 M_X0_keep 35 [some (.inr 25), some (.inl s), some (.inl p), some (.inl i), some (.inl l), none] [] μ2 Q := by
    intro μ2 o2 a2 s2 m2
    have s3 : 1 ≤ μ2 25 5 ∧ μ2 25 5 ≤ 24 := by rw [s2]; split <;> omega
    refine keep_end (μ0 := μ) a2 s3 (fun μ1 e1 => h μ1 ?_)
    have f25 : ∀ i, μ1 25 i = μ2 25 i := fun i => by rw [e1, up_ne (by decide), up_ne (by decide), up_ne (by decide), up_ne (by decide)]
    refine ⟨fun k hk => ?_, by rw [f25]; exact a2, by rw [f25]; exact s2, fun j j0 j1 => ?_, ?_⟩
    · rw [e1, up_ne (by omega), up_ne (by omega), up_ne (by omega), up_ne (by omega), o2 k (by omega)]
    · rw [f25] at j1
      have ne : (μ2 25 4 + j) % 24 ≠ (μ2 25 4 + (μ2 25 5 - 1)) % 24 := by omega
      have mm := m2 j j0 j1
      unfold aAct
      rw [f25, ← mm]
      have q26 : μ1 26 ((μ2 25 4 + j) % 24) = μ 26 ((μ2 25 4 + j) % 24) := by rw [e1, up_off (Or.inl (by decide)), up_off (Or.inl (by decide)), up_off (Or.inl (by decide)), up_off (Or.inr ne), o2 26 (by decide)]
      have q27 : μ1 27 ((μ2 25 4 + j) % 24) = μ 27 ((μ2 25 4 + j) % 24) := by rw [e1, up_off (Or.inl (by decide)), up_off (Or.inl (by decide)), up_off (Or.inr ne), up_off (Or.inl (by decide)), o2 27 (by decide)]
      have q28 : μ1 28 ((μ2 25 4 + j) % 24) = μ 28 ((μ2 25 4 + j) % 24) := by rw [e1, up_off (Or.inl (by decide)), up_off (Or.inr ne), up_off (Or.inl (by decide)), up_off (Or.inl (by decide)), o2 28 (by decide)]
      have q29 : μ1 29 ((μ2 25 4 + j) % 24) = μ 29 ((μ2 25 4 + j) % 24) := by rw [e1, up_off (Or.inr ne), up_off (Or.inl (by decide)), up_off (Or.inl (by decide)), up_off (Or.inl (by decide)), o2 29 (by decide)]
      rw [q26, q27, q28, q29]
    · unfold aAct
      rw [f25, f25]
      have q26 : μ1 26 ((μ2 25 4 + (μ2 25 5 - 1)) % 24) = s := by rw [e1, up_off (Or.inl (by decide)), up_off (Or.inl (by decide)), up_off (Or.inl (by decide)), up_self]
      have q27 : μ1 27 ((μ2 25 4 + (μ2 25 5 - 1)) % 24) = p := by rw [e1, up_off (Or.inl (by decide)), up_off (Or.inl (by decide)), up_self]
      have q28 : μ1 28 ((μ2 25 4 + (μ2 25 5 - 1)) % 24) = i := by rw [e1, up_off (Or.inl (by decide)), up_self]
      have q29 : μ1 29 ((μ2 25 4 + (μ2 25 5 - 1)) % 24) = l := by rw [e1, up_self]
      rw [q26, q27, q28, q29]
  refine s_X0_keep ⟨by omega, fun z μ2 e2 => fin μ2 ?_ ?_ ?_ ?_, fun z μ3 e3 => fin μ3 ?_ ?_ ?_ ?_⟩
  · intro k hk; rw [e2, up_ne hk]
  · rw [e2, up_self, jrem_pos (by omega) (by omega) (by decide) (by decide)]; omega
  · rw [e2, up_off (Or.inr (by decide)), if_neg (by omega)]; omega
  · intro j j0 j1
    rw [e2, up_self, jrem_pos (by omega) (by omega) (by decide) (by decide), if_neg (by omega)]; omega
  · intro k hk; rw [e3, up_ne hk]
  · rw [e3, up_off (Or.inr (by decide))]; exact h1
  · rw [e3, up_self, if_pos (by omega)]
  · intro j j0 j1
    rw [e3, up_off (Or.inr (by decide)), if_pos (by omega)]
set_option maxRecDepth 20000 in
theorem s_X0_keepDay {E : Ex} {μ : Mem} {Q : Option Vl → Mem → Prop}  (h : (0 ≤ μ 25 4 ∧ μ 25 4 < 24) ∧ (0 ≤ μ 25 5 ∧ μ 25 5 ≤ 24) ∧ ∀ μ3 : Mem, kpA μ μ3 (0, 0, 0, 0) → Q none μ3) : Cl E 2 M_X0_keepDay [.inr 25] μ Q := by
  show Gg E 2 M_X0_keepDay 0 [some (.inr 25)] [] μ Q
  refine r_aloadn (q := 1) DM_X0_keepDay_0 rfl rfl ?_
  refine r_iconst (q := 2) (n := 0) DM_X0_keepDay_1 rfl ?_
  refine r_iconst (q := 3) (n := 0) DM_X0_keepDay_2 rfl ?_
  refine r_iconst (q := 4) (n := 0) DM_X0_keepDay_3 rfl ?_
  refine r_iconst (q := 5) (n := 0) DM_X0_keepDay_4 rfl ?_
  have i1 := h.1
  replace h := h.2
  have i2 := h.1
  replace h := h.2
  refine r_callVv [.inl 0, .inl 0, .inl 0, .inl 0] (q := 8) DM_X0_keepDay_5 rfl kM_X0_keep lRX0_28 sh_25 rfl rfl (by decide) (Nat.le_of_ble_eq_true rfl) rfl (k_X0_keep i1 i2 (fun μ3 e3 => ⟨rfl, ?_⟩))
  replace h := h μ3 e3
  exact r_ret (v := none) ⟨DM_X0_keepDay_8, rfl⟩ h
theorem k_X0_keepDay (h1 : 0 ≤ μ 25 4 ∧ μ 25 4 < 24) (h2 : 0 ≤ μ 25 5 ∧ μ 25 5 ≤ 24) (h : ∀ μ1 : Mem, kpA μ μ1 (0, 0, 0, 0) → Q none μ1) : Cl E 2 M_X0_keepDay [.inr 25] μ Q := s_X0_keepDay ⟨h1, h2, h⟩
set_option maxRecDepth 20000 in
theorem s_X0_keepForged {E : Ex} {μ : Mem} {Q : Option Vl → Mem → Prop} {x1 x2 x3 : Int}  (h : (0 ≤ μ 25 4 ∧ μ 25 4 < 24) ∧ (0 ≤ μ 25 5 ∧ μ 25 5 ≤ 24) ∧ ∀ μ3 : Mem, kpA μ μ3 (1, x1, x2, x3) → Q none μ3) : Cl E 2 M_X0_keepForged [.inr 25, .inl x1, .inl x2, .inl x3] μ Q := by
  show Gg E 2 M_X0_keepForged 0 [some (.inr 25), some (.inl x1), some (.inl x2), some (.inl x3)] [] μ Q
  refine r_aloadn (q := 1) DM_X0_keepForged_0 rfl rfl ?_
  refine r_iconst (q := 2) (n := 1) DM_X0_keepForged_1 rfl ?_
  refine r_iloadn (q := 3) DM_X0_keepForged_2 rfl rfl ?_
  refine r_iloadn (q := 4) DM_X0_keepForged_3 rfl rfl ?_
  refine r_iloadn (q := 5) DM_X0_keepForged_4 rfl rfl ?_
  have i1 := h.1
  replace h := h.2
  have i2 := h.1
  replace h := h.2
  refine r_callVv [.inl 1, .inl x1, .inl x2, .inl x3] (q := 8) DM_X0_keepForged_5 rfl kM_X0_keep lRX0_28 sh_25 rfl rfl (by decide) (Nat.le_of_ble_eq_true rfl) rfl (k_X0_keep i1 i2 (fun μ3 e3 => ⟨rfl, ?_⟩))
  replace h := h μ3 e3
  exact r_ret (v := none) ⟨DM_X0_keepForged_8, rfl⟩ h
theorem k_X0_keepForged (h1 : 0 ≤ μ 25 4 ∧ μ 25 4 < 24) (h2 : 0 ≤ μ 25 5 ∧ μ 25 5 ≤ 24) (h : ∀ μ1 : Mem, kpA μ μ1 (1, p, i, l) → Q none μ1) : Cl E 2 M_X0_keepForged [.inr 25, .inl p, .inl i, .inl l] μ Q := s_X0_keepForged ⟨h1, h2, h⟩
set_option maxRecDepth 20000 in
theorem s_X0_keepLost {E : Ex} {μ : Mem} {Q : Option Vl → Mem → Prop} {x1 : Int}  (h : (0 ≤ μ 25 4 ∧ μ 25 4 < 24) ∧ (0 ≤ μ 25 5 ∧ μ 25 5 ≤ 24) ∧ ∀ μ3 : Mem, kpA μ μ3 (2, 0, 0, x1) → Q none μ3) : Cl E 2 M_X0_keepLost [.inr 25, .inl x1] μ Q := by
  show Gg E 2 M_X0_keepLost 0 [some (.inr 25), some (.inl x1)] [] μ Q
  refine r_aloadn (q := 1) DM_X0_keepLost_0 rfl rfl ?_
  refine r_iconst (q := 2) (n := 2) DM_X0_keepLost_1 rfl ?_
  refine r_iconst (q := 3) (n := 0) DM_X0_keepLost_2 rfl ?_
  refine r_iconst (q := 4) (n := 0) DM_X0_keepLost_3 rfl ?_
  refine r_iloadn (q := 5) DM_X0_keepLost_4 rfl rfl ?_
  have i1 := h.1
  replace h := h.2
  have i2 := h.1
  replace h := h.2
  refine r_callVv [.inl 2, .inl 0, .inl 0, .inl x1] (q := 8) DM_X0_keepLost_5 rfl kM_X0_keep lRX0_28 sh_25 rfl rfl (by decide) (Nat.le_of_ble_eq_true rfl) rfl (k_X0_keep i1 i2 (fun μ3 e3 => ⟨rfl, ?_⟩))
  replace h := h μ3 e3
  exact r_ret (v := none) ⟨DM_X0_keepLost_8, rfl⟩ h
theorem k_X0_keepLost (h1 : 0 ≤ μ 25 4 ∧ μ 25 4 < 24) (h2 : 0 ≤ μ 25 5 ∧ μ 25 5 ≤ 24) (h : ∀ μ1 : Mem, kpA μ μ1 (2, 0, 0, l) → Q none μ1) : Cl E 2 M_X0_keepLost [.inr 25, .inl l] μ Q := s_X0_keepLost ⟨h1, h2, h⟩
set_option maxRecDepth 20000 in
theorem s_X0_takeBack {E : Ex} {μ : Mem} {Q : Option Vl → Mem → Prop}  (h : inR (μ 25 5) ∧ ((μ 25 5) ≠ 0 → (0 ≤ μ 25 4 ∧ μ 25 4 < 24) ∧ (1 ≤ μ 25 5 ∧ μ 25 5 ≤ 24) ∧ ∀ μ4 : Mem, μ4 = up μ 25 5 ((μ 25 5) - 1) → (0 ≤ ((μ 25 4 + (μ 25 5 - 1)) % 24) ∧ ((μ 25 4 + (μ 25 5 - 1)) % 24) < 24) ∧ inR (μ4 26 ((μ 25 4 + (μ 25 5 - 1)) % 24)) ∧ ((μ4 26 ((μ 25 4 + (μ 25 5 - 1)) % 24)) = 0 → (RgC μ4 4) ∧ (0 ≤ μ4 4 1 ∧ μ4 4 1 ≤ 6) ∧ ∀ μ9 : Mem, chC μ4 μ9 4 (upv (tbC (cv μ4 4) (μ4 4 1)) 0 4 (μ4 4 4 - 1)) → Q none μ9) ∧ ((μ4 26 ((μ 25 4 + (μ 25 5 - 1)) % 24)) = 1 → (0 ≤ (μ4 27 ((μ 25 4 + (μ 25 5 - 1)) % 24)) * 4 + (μ4 28 ((μ 25 4 + (μ 25 5 - 1)) % 24)) ∧ (μ4 27 ((μ 25 4 + (μ 25 5 - 1)) % 24)) * 4 + (μ4 28 ((μ 25 4 + (μ 25 5 - 1)) % 24)) < 24) ∧ ∀ μ11 : Mem, μ11 = up μ4 (4 + 5) ((μ4 27 ((μ 25 4 + (μ 25 5 - 1)) % 24)) * 4 + (μ4 28 ((μ 25 4 + (μ 25 5 - 1)) % 24))) (μ4 29 ((μ 25 4 + (μ 25 5 - 1)) % 24)) → Q none μ11) ∧ (¬ (μ4 26 ((μ 25 4 + (μ 25 5 - 1)) % 24)) = 0 ∧ ¬ (μ4 26 ((μ 25 4 + (μ 25 5 - 1)) % 24)) = 1 → ∀ μ12 : Mem, μ12 = up μ4 4 5 (jxor (μ4 4 5) (jshl 1 (μ4 29 ((μ 25 4 + (μ 25 5 - 1)) % 24)))) → Q none μ12)) ∧ ((μ 25 5) = 0 → Q none μ)) : Cl E 1 M_X0_takeBack [.inr 25, .inr 4] μ Q := by
  show Gg E 1 M_X0_takeBack 0 [some (.inr 25), some (.inr 4), none] [] μ Q
  refine r_aloadn (q := 1) DM_X0_takeBack_0 rfl rfl ?_
  refine v_getI (q := 4) (ji := 5) DM_X0_takeBack_1 rfl fRX0_24 sh_25 rfl rfl ?_
  have i1 := h.1
  replace h := h.2
  refine r_ifne (q := 7) (t := 8) DM_X0_takeBack_4 rfl (by decide) ⟨i1, fun cc => ?_, fun cc => ?_⟩
  · replace h := h.1 cc
    refine r_aloadn (q := 9) DM_X0_takeBack_8 rfl rfl ?_
    have i2 := h.1
    replace h := h.2
    have i3 := h.1
    replace h := h.2
    refine r_callVi [] (q := 12) DM_X0_takeBack_9 rfl kM_X0_latestPlace lRX0_35 sh_25 rfl rfl (by decide) (Nat.le_of_ble_eq_true rfl) rfl (k_X0_latestPlace i2 i3 ⟨_, rfl, ?_⟩)
    refine v_istoren (q := 13) (ls' := [some (.inr 25), some (.inr 4), some (.inl ((μ 25 4 + (μ 25 5 - 1)) % 24))]) DM_X0_takeBack_12 rfl (by decide) rfl ?_
    refine r_aloadn (q := 14) DM_X0_takeBack_13 rfl rfl ?_
    refine r_dup (q := 15) DM_X0_takeBack_14 rfl ?_
    refine v_getI (q := 18) (ji := 5) DM_X0_takeBack_15 rfl fRX0_24 sh_25 rfl rfl ?_
    refine r_iconst (q := 19) (n := 1) DM_X0_takeBack_18 rfl ?_
    refine r_isub (q := 20) DM_X0_takeBack_19 rfl ?_
    refine v_put (q := 23) (ji := 5) DM_X0_takeBack_20 rfl pfRX0_24 sh_25 rfl rfl (Or.inl rfl) (fun μ4 e4 => ?_)
    replace h := h μ4 e4
    refine r_aloadn (q := 24) DM_X0_takeBack_23 rfl rfl ?_
    refine r_getR (q := 27) (r := 26) DM_X0_takeBack_24 rfl fRX0_9 sh_25 rfl ?_
    refine r_iloadn (q := 28) DM_X0_takeBack_27 rfl rfl ?_
    refine r_iald (q := 29) DM_X0_takeBack_28 rfl sh_26 (by decide) ⟨h.1, ?_⟩
    have i5 := h.1
    replace h := h.2
    have i6 := h.1
    replace h := h.2
    by_cases c0 : (μ4 26 ((μ 25 4 + (μ 25 5 - 1)) % 24)) = 0
    · replace h := h.1 c0
      refine r_lsw (off := 27) (q := 56) DM_X0_takeBack_29 i6 (by decide) (by rw [c0]; rfl) (by decide) ?_
      refine r_aloadn (q := 57) DM_X0_takeBack_56 rfl rfl ?_
      have i7 := h.1
      replace h := h.2
      have i8 := h.1
      replace h := h.2
      refine r_callVv [] (q := 60) DM_X0_takeBack_57 rfl kM_X2_takeBackDay lRX0_39 (co0 cK_4) rfl rfl (by decide) (Nat.le_of_ble_eq_true rfl) rfl (k_X2_takeBackDay cK_4 i7 i8 (fun μ9 e9 => ⟨rfl, ?_⟩))
      replace h := h μ9 e9
      refine r_goto (q := 105) DM_X0_takeBack_60 (by decide) ?_
      exact r_ret (v := none) ⟨DM_X0_takeBack_105, rfl⟩ h
    by_cases c1 : (μ4 26 ((μ 25 4 + (μ 25 5 - 1)) % 24)) = 1
    · replace h := h.2.1 c1
      refine r_lsw (off := 34) (q := 63) DM_X0_takeBack_29 i6 (by decide) (by rw [c1]; rfl) (by decide) ?_
      refine r_aloadn (q := 64) DM_X0_takeBack_63 rfl rfl ?_
      refine r_aloadn (q := 65) DM_X0_takeBack_64 rfl rfl ?_
      refine r_getR (q := 68) (r := 27) DM_X0_takeBack_65 rfl fRX0_15 sh_25 rfl ?_
      refine r_iloadn (q := 69) DM_X0_takeBack_68 rfl rfl ?_
      refine r_iald (q := 70) DM_X0_takeBack_69 rfl sh_27 (by decide) ⟨i5, ?_⟩
      refine r_aloadn (q := 71) DM_X0_takeBack_70 rfl rfl ?_
      refine r_getR (q := 74) (r := 28) DM_X0_takeBack_71 rfl fRX0_18 sh_25 rfl ?_
      refine r_iloadn (q := 75) DM_X0_takeBack_74 rfl rfl ?_
      refine r_iald (q := 76) DM_X0_takeBack_75 rfl sh_28 (by decide) ⟨i5, ?_⟩
      refine r_aloadn (q := 77) DM_X0_takeBack_76 rfl rfl ?_
      refine r_getR (q := 80) (r := 29) DM_X0_takeBack_77 rfl fRX0_21 sh_25 rfl ?_
      refine r_iloadn (q := 81) DM_X0_takeBack_80 rfl rfl ?_
      refine r_iald (q := 82) DM_X0_takeBack_81 rfl sh_29 (by decide) ⟨i5, ?_⟩
      have i10 := h.1
      replace h := h.2
      refine r_callVv [.inl (μ4 27 ((μ 25 4 + (μ 25 5 - 1)) % 24)), .inl (μ4 28 ((μ 25 4 + (μ 25 5 - 1)) % 24)), .inl (μ4 29 ((μ 25 4 + (μ 25 5 - 1)) % 24))] (q := 85) DM_X0_takeBack_82 rfl kM_X2_putLetter lRX0_44 (co0 cK_4) rfl rfl (by decide) (Nat.le_of_ble_eq_true rfl) rfl (k_X2_putLetter cK_4 i10 (fun μ11 e11 => ⟨rfl, ?_⟩))
      replace h := h μ11 e11
      refine r_goto (q := 105) DM_X0_takeBack_85 (by decide) ?_
      exact r_ret (v := none) ⟨DM_X0_takeBack_105, rfl⟩ h
    replace h := h.2.2 ⟨c0, c1⟩
    refine r_lsw (off := 59) (q := 88) DM_X0_takeBack_29 i6 (by decide) (by simp only [List.toList_toArray, Op.lookupswitch.offset_cons, Op.lookupswitch.offset]; rw [if_neg (fun z => c0 z.symm)]; rw [if_neg (fun z => c1 z.symm)]) (by decide) ?_
    refine r_aloadn (q := 89) DM_X0_takeBack_88 rfl rfl ?_
    refine r_dup (q := 90) DM_X0_takeBack_89 rfl ?_
    refine v_getI (q := 93) (ji := 5) DM_X0_takeBack_90 rfl fRX0_48 (co0 cK_4) rfl rfl ?_
    refine r_iconst (q := 94) (n := 1) DM_X0_takeBack_93 rfl ?_
    refine r_aloadn (q := 95) DM_X0_takeBack_94 rfl rfl ?_
    refine r_getR (q := 98) (r := 29) DM_X0_takeBack_95 rfl fRX0_21 sh_25 rfl ?_
    refine r_iloadn (q := 99) DM_X0_takeBack_98 rfl rfl ?_
    refine r_iald (q := 100) DM_X0_takeBack_99 rfl sh_29 (by decide) ⟨i5, ?_⟩
    refine r_ishl (q := 101) DM_X0_takeBack_100 rfl ?_
    refine r_ixor (q := 102) DM_X0_takeBack_101 rfl ?_
    refine v_put (q := 105) (ji := 5) DM_X0_takeBack_102 rfl pfRX0_48 (co0 cK_4) rfl rfl (Or.inl rfl) (fun μ12 e12 => ?_)
    replace h := h μ12 e12
    exact r_ret (v := none) ⟨DM_X0_takeBack_105, rfl⟩ h
  · replace h := h.2 cc
    exact r_ret (v := none) ⟨DM_X0_takeBack_7, rfl⟩ h
theorem k_X0_takeBack (h1 : 0 ≤ μ 25 4 ∧ μ 25 4 < 24) (h2 : 1 ≤ μ 25 5 ∧ μ 25 5 ≤ 24) (hg : RgC μ 4) (hn : 0 ≤ μ 4 1 ∧ μ 4 1 ≤ 6) (hs : (aAct μ (μ 25 5 - 1)).1 = 0 ∨ (aAct μ (μ 25 5 - 1)).1 = 1 ∧ 0 ≤ (aAct μ (μ 25 5 - 1)).2.1 * 4 + (aAct μ (μ 25 5 - 1)).2.2.1 ∧ (aAct μ (μ 25 5 - 1)).2.1 * 4 + (aAct μ (μ 25 5 - 1)).2.2.1 < 24 ∨ (aAct μ (μ 25 5 - 1)).1 = 2) (h : ∀ μ1 : Mem, bkA μ μ1 → Q none μ1) : Cl E 1 M_X0_takeBack [.inr 25, .inr 4] μ Q := by
  obtain ⟨q, eq⟩ : ∃ q, q = (μ 25 4 + (μ 25 5 - 1)) % 24 := ⟨_, rfl⟩
  have ea : aAct μ (μ 25 5 - 1) = (μ 26 q, μ 27 q, μ 28 q, μ 29 q) := by rw [eq]; rfl
  rw [ea] at hs
  simp only at hs
  refine s_X0_takeBack ⟨by omega, fun z => ⟨h1, h2, fun μ4 e4 => ?_⟩, fun z => absurd z (by omega)⟩
  have o : ∀ k, k ≠ 25 → μ4 k = μ k := fun k hk => by rw [e4, up_ne hk]
  have c4 : cv μ4 4 = fun j => if j < 10 then cv μ 4 j else cv μ4 4 j := by
    funext j
    by_cases hj : j < 10
    · rw [if_pos hj]; exact o (4 + j) (by omega)
    · rw [if_neg hj]
  have f4 : μ4 25 4 = μ 25 4 := by rw [e4, up_off (Or.inr (by decide))]
  have f5 : μ4 25 5 = μ 25 5 - 1 := by rw [e4, up_self]
  rw [← eq, o 26 (by decide), o 27 (by decide), o 28 (by decide), o 29 (by decide), o 4 (by decide)]
  refine ⟨by omega, by omega, fun z => ⟨?_, hn, fun μ9 h9 => h μ9 ⟨?_, ?_, ?_, ?_⟩⟩, fun z => ⟨by omega, fun μ9 e9 => h μ9 ⟨?_, ?_, ?_, ?_⟩⟩, fun z μ9 e9 => h μ9 ⟨?_, ?_, ?_, ?_⟩⟩
  · intro j i hj; rw [o (4 + j) (by omega)]; exact hg j i hj
  · intro k hk hk2; rw [h9.2 k (by omega), o k hk2]
  · rw [h9.2 25 (by decide), f4]
  · rw [h9.2 25 (by decide), f5]
  · rw [ea]
    funext j
    by_cases hj : j < 10
    · rw [if_pos hj, h9.1]
      simp only [unA]
      rw [if_pos z]
      have e1 : ∀ j, j < 10 → cv μ4 4 j = cv μ 4 j := fun j hj => o (4 + j) (by omega)
      have e2 : tbC (cv μ4 4) (μ 4 1) j = tbC (cv μ 4) (cv μ 4 0 1) j := by
        funext i
        simp only [tbC]
        rw [e1 j hj, e1 8 (by decide), e1 0 (by decide)]; rfl
      by_cases hj0 : j = 0
      · subst hj0
        funext i
        simp only [upv]
        rw [e2]; rfl
      · rw [upv_ne hj0, upv_ne hj0, e2]
    · rw [if_neg hj]
  · intro k hk hk2; rw [e9, up_ne (by omega), o k hk2]
  · rw [e9, up_ne (by decide), f4]
  · rw [e9, up_ne (by decide), f5]
  · rw [ea]
    funext j
    by_cases hj : j < 10
    · rw [if_pos hj, e9, cv_up]
      simp only [unA]
      rw [if_neg (by omega), if_pos z]
      funext i
      simp only [upv]
      rw [show cv μ4 4 j = cv μ 4 j from o (4 + j) (by omega)]
    · rw [if_neg hj]
  · intro k hk hk2; rw [e9, up_ne (by omega), o k hk2]
  · rw [e9, up_ne (by decide), f4]
  · rw [e9, up_ne (by decide), f5]
  · rw [ea]
    funext j
    by_cases hj : j < 10
    · rw [if_pos hj, e9, cv_up0]
      simp only [unA]
      rw [if_neg z.1, if_neg z.2]
      funext i
      simp only [upv]
      rw [show cv μ4 4 j = cv μ 4 j from o (4 + j) (by omega)]; rfl
    · rw [if_neg hj]
set_option maxRecDepth 20000 in
theorem s_X7_isOfKind {E : Ex} {μ : Mem} {Q : Option Vl → Mem → Prop} {x0 x1 : Int}  (h : Gg E 1 M_X7_isOfKind 4 [some (.inl x0), some (.inl x1), some (.inl x0), some (.inl 0)] [] μ Q) : Cl E 1 M_X7_isOfKind [.inl x0, .inl x1] μ Q := by
  show Gg E 1 M_X7_isOfKind 0 [some (.inl x0), some (.inl x1), none, none] [] μ Q
  refine r_iloadn (q := 1) DM_X7_isOfKind_0 rfl rfl ?_
  refine v_istoren (q := 2) (ls' := [some (.inl x0), some (.inl x1), some (.inl x0), none]) DM_X7_isOfKind_1 rfl (by decide) rfl ?_
  refine r_iconst (q := 3) (n := 0) DM_X7_isOfKind_2 rfl ?_
  refine v_istoren (q := 4) (ls' := [some (.inl x0), some (.inl x1), some (.inl x0), some (.inl 0)]) DM_X7_isOfKind_3 rfl (by decide) rfl ?_
  exact h
set_option maxRecDepth 20000 in
theorem s_X7_isOfKind_4 {E : Ex} {μ : Mem} {Q : Option Vl → Mem → Prop} {x0 x1 x2 x3 : Int}  (h : inR x3 ∧ (x3 ≥ 6 → Q (some (.inl (bi false))) μ) ∧ (¬ x3 ≥ 6 → inR x2 ∧ (¬ (0 ≤ x2 ∧ x2 < 6) → Q (some (.inl (bi false))) μ) ∧ ((0 ≤ x2 ∧ x2 < 6) → inR x1 ∧ (x2 ≠ x1 → (0 ≤ x2 ∧ x2 < 6) ∧ Gg E 1 M_X7_isOfKind 4 [some (.inl x0), some (.inl x1), some (.inl (eR E 0 (x2).toNat)), some (.inl (x3 + 1))] [] μ Q) ∧ (x2 = x1 → Q (some (.inl (bi true))) μ)))) : Gg E 1 M_X7_isOfKind 4 [some (.inl x0), some (.inl x1), some (.inl x2), some (.inl x3)] [] μ Q := by
  refine r_iloadn (q := 5) DM_X7_isOfKind_4 rfl rfl ?_
  refine r_bipush (q := 7) (n := 6) DM_X7_isOfKind_5 rfl (by decide) ?_
  have i1 := h.1
  replace h := h.2
  refine r_icge (q := 10) (t := 38) DM_X7_isOfKind_7 rfl (by decide) ⟨⟨i1, (by decide)⟩, fun cc => ?_, fun cc => ?_⟩
  · replace h := h.1 cc
    refine r_iconst (q := 39) (n := 0) DM_X7_isOfKind_38 rfl ?_
    exact r_ret (v := some (.inl 0)) ⟨DM_X7_isOfKind_39, Or.inr ⟨rfl, Or.inl rfl⟩⟩ h
  · replace h := h.2 cc
    refine r_iloadn (q := 11) DM_X7_isOfKind_10 rfl rfl ?_
    refine r_bipush (q := 13) (n := 6) DM_X7_isOfKind_11 rfl (by decide) ?_
    have i2 := h.1
    replace h := h.2
    refine r_callSi [.inl x2, .inl 6] (q := 16) DM_X7_isOfKind_13 rfl kM_X7_isIn lRX7_65 rfl (by decide) (Nat.le_of_ble_eq_true rfl) rfl (k_X7_isIn i2 (by decide) ⟨_, rfl, ?_⟩)
    refine r_bieq (q := 19) (t := 38) DM_X7_isOfKind_16 rfl (by decide) ⟨fun cc => ?_, fun cc => ?_⟩
    · replace h := h.1 cc
      refine r_iconst (q := 39) (n := 0) DM_X7_isOfKind_38 rfl ?_
      exact r_ret (v := some (.inl 0)) ⟨DM_X7_isOfKind_39, Or.inr ⟨rfl, Or.inl rfl⟩⟩ h
    · replace h := h.2 cc
      refine r_iloadn (q := 20) DM_X7_isOfKind_19 rfl rfl ?_
      refine r_iloadn (q := 21) DM_X7_isOfKind_20 rfl rfl ?_
      have i3 := h.1
      replace h := h.2
      refine r_icne (q := 24) (t := 26) DM_X7_isOfKind_21 rfl (by decide) ⟨⟨i2, i3⟩, fun cc => ?_, fun cc => ?_⟩
      · replace h := h.1 cc
        refine r_gets (q := 29) (t := 0) DM_X7_isOfKind_26 rfl (by decide) zRX7_283 ?_
        refine r_iloadn (q := 30) DM_X7_isOfKind_29 rfl rfl ?_
        refine v_tald (q := 31) (t := 0) (N := 6) DM_X7_isOfKind_30 rfl (by decide) rfl ⟨h.1, ?_⟩
        replace h := h.2
        refine v_istoren (q := 32) (ls' := [some (.inl x0), some (.inl x1), some (.inl (eR E 0 (x2).toNat)), some (.inl x3)]) DM_X7_isOfKind_31 rfl (by decide) rfl ?_
        refine v_iinc (q := 35) (ls' := [some (.inl x0), some (.inl x1), some (.inl (eR E 0 (x2).toNat)), some (.inl (x3 + 1))]) DM_X7_isOfKind_32 rfl rfl (by decide) rfl ?_
        refine r_goto (q := 4) DM_X7_isOfKind_35 (by decide) ?_
        exact h
      · replace h := h.2 cc
        refine r_iconst (q := 25) (n := 1) DM_X7_isOfKind_24 rfl ?_
        exact r_ret (v := some (.inl 1)) ⟨DM_X7_isOfKind_25, Or.inr ⟨rfl, Or.inr rfl⟩⟩ h
def isK (k a : Int) : Bool := decide (a = 0 ∨ a = k ∨ (a = 1 ∧ k < 4) ∨ (a = 4 ∧ k = 5))
theorem k_X7_isOfKind (hR : RoOk E) (hk : 1 ≤ a ∧ a ≤ 5) (hb : 0 ≤ b ∧ b < 6) (h : Q (some (.inl (bi (isK a b)))) μ) : Cl E 1 M_X7_isOfKind [.inl a, .inl b] μ Q := by
  have t : ∀ j : Nat, j < 6 → eR E 0 j = [-1, 0, 1, 1, 0, 4].getD j 0 := fun j hj => (hR j hj).1
  have fin : ∀ (f : Bool), f = isK a b → Q (some (.inl (bi f))) μ := fun f e => by rw [e]; exact h
  have t0 : ∀ s : Int, 0 ≤ s → s ≤ 5 → (b ≠ 0 → isK a b = false) → (b = 0 → isK a b = true) → Gg E 1 M_X7_isOfKind 4 [some (.inl a), some (.inl b), some (.inl 0), some (.inl s)] [] μ Q := by
    intro s s0 s1 f1 f2
    refine s_X7_isOfKind_4 ⟨by omega, fun z => absurd z (by omega), fun _ => ⟨by decide, fun z => absurd (by decide) z, fun _ => ⟨by omega, fun z => ⟨by decide, ?_⟩, fun z => fin true (f2 z.symm).symm⟩⟩⟩
    rw [show (0 : Int).toNat = 0 from rfl, t 0 (by decide)]
    refine s_X7_isOfKind_4 ⟨by omega, fun z2 => fin false (f1 (fun q => z q.symm)).symm, fun _ => ⟨by decide, fun _ => fin false (f1 (fun q => z q.symm)).symm, fun q => absurd q.1 (by decide)⟩⟩
  refine s_X7_isOfKind ?_
  have hh : ∀ b : Int, (b = 0 ∨ b = 1 ∨ b = 2 ∨ b = 3 ∨ b = 4 ∨ b = 5) → True := fun _ _ => trivial
  have one : ∀ s : Int, 0 ≤ s → s ≤ 4 → a < 4 → a ≠ 0 → (b ≠ 1 → b ≠ 0 → isK a b = false) → Gg E 1 M_X7_isOfKind 4 [some (.inl a), some (.inl b), some (.inl 1), some (.inl s)] [] μ Q := by
    intro s s0 s1 ha ha0 f
    refine s_X7_isOfKind_4 ⟨by omega, fun z => absurd z (by omega), fun _ => ⟨by decide, fun z => absurd (by decide) z, fun _ => ⟨by omega, fun z => ⟨by decide, ?_⟩, fun z => fin true ?_⟩⟩⟩
    · rw [show (1 : Int).toNat = 1 from rfl, t 1 (by decide)]
      exact t0 (s + 1) (by omega) (by omega) (fun q => f (fun w => z w.symm) q) (fun q => by unfold isK; exact decide_eq_true (Or.inl q))
    · unfold isK; exact (decide_eq_true (by omega)).symm
  rcases (show a = 1 ∨ a = 2 ∨ a = 3 ∨ a = 4 ∨ a = 5 by omega) with rfl | rfl | rfl | rfl | rfl
  · exact one 0 (by decide) (by decide) (by decide) (by decide) (fun q1 q2 => by unfold isK; exact decide_eq_false (by omega))
  · refine s_X7_isOfKind_4 ⟨by decide, fun z => absurd z (by decide), fun _ => ⟨by decide, fun z => absurd (by decide) z, fun _ => ⟨by omega, fun z => ⟨by decide, ?_⟩, fun z => fin true ?_⟩⟩⟩
    · rw [show (2 : Int).toNat = 2 from rfl, t 2 (by decide)]
      exact one 1 (by decide) (by decide) (by decide) (by decide) (fun q1 q2 => by unfold isK; exact decide_eq_false (by omega))
    · unfold isK; exact (decide_eq_true (by omega)).symm
  · refine s_X7_isOfKind_4 ⟨by decide, fun z => absurd z (by decide), fun _ => ⟨by decide, fun z => absurd (by decide) z, fun _ => ⟨by omega, fun z => ⟨by decide, ?_⟩, fun z => fin true ?_⟩⟩⟩
    · rw [show (3 : Int).toNat = 3 from rfl, t 3 (by decide)]
      exact one 1 (by decide) (by decide) (by decide) (by decide) (fun q1 q2 => by unfold isK; exact decide_eq_false (by omega))
    · unfold isK; exact (decide_eq_true (by omega)).symm
  · refine s_X7_isOfKind_4 ⟨by decide, fun z => absurd z (by decide), fun _ => ⟨by decide, fun z => absurd (by decide) z, fun _ => ⟨by omega, fun z => ⟨by decide, ?_⟩, fun z => fin true ?_⟩⟩⟩
    · rw [show (4 : Int).toNat = 4 from rfl, t 4 (by decide)]
      exact t0 1 (by decide) (by decide) (fun q => by unfold isK; exact decide_eq_false (by omega)) (fun q => by unfold isK; exact decide_eq_true (Or.inl q))
    · unfold isK; exact (decide_eq_true (by omega)).symm
  · refine s_X7_isOfKind_4 ⟨by decide, fun z => absurd z (by decide), fun _ => ⟨by decide, fun z => absurd (by decide) z, fun _ => ⟨by omega, fun z => ⟨by decide, ?_⟩, fun z => fin true ?_⟩⟩⟩
    · rw [show (5 : Int).toNat = 5 from rfl, t 5 (by decide)]
      refine s_X7_isOfKind_4 ⟨by decide, fun z => absurd z (by decide), fun _ => ⟨by decide, fun z => absurd (by decide) z, fun _ => ⟨by omega, fun z2 => ⟨by decide, ?_⟩, fun z2 => fin true ?_⟩⟩⟩
      · rw [show ([-1, 0, 1, 1, 0, 4].getD 5 0 : Int).toNat = 4 from rfl, t 4 (by decide)]
        have z3 : (4 : Int) ≠ b := z2
        exact t0 2 (by decide) (by decide) (fun q => by unfold isK; exact decide_eq_false (by omega)) (fun q => by unfold isK; exact decide_eq_true (Or.inl q))
      · have z3 : (4 : Int) = b := z2
        unfold isK; exact (decide_eq_true (by omega)).symm
    · unfold isK; exact (decide_eq_true (by omega)).symm
set_option maxRecDepth 20000 in
theorem s_X7_howManyRows {E : Ex} {μ : Mem} {Q : Option Vl → Mem → Prop}  (h : Gg E 1 M_X7_howManyRows 4 [some (.inr 0), some (.inl 0), some (.inl 0)] [] μ Q) : Cl E 1 M_X7_howManyRows [.inr 0] μ Q := by
  show Gg E 1 M_X7_howManyRows 0 [some (.inr 0), none, none] [] μ Q
  refine r_iconst (q := 1) (n := 0) DM_X7_howManyRows_0 rfl ?_
  refine v_istoren (q := 2) (ls' := [some (.inr 0), some (.inl 0), none]) DM_X7_howManyRows_1 rfl (by decide) rfl ?_
  refine r_iconst (q := 3) (n := 0) DM_X7_howManyRows_2 rfl ?_
  refine v_istoren (q := 4) (ls' := [some (.inr 0), some (.inl 0), some (.inl 0)]) DM_X7_howManyRows_3 rfl (by decide) rfl ?_
  exact h
set_option maxRecDepth 20000 in
theorem s_X7_howManyRows_4 {E : Ex} {μ : Mem} {Q : Option Vl → Mem → Prop} {x1 x2 : Int}  (h : inR x2 ∧ (x2 ≥ 8 → Q (some (.inl x1)) μ) ∧ (¬ x2 ≥ 8 → (0 ≤ x2 ∧ x2 < 8) ∧ (roS (rw x2) → inR (μ (rw x2) 2) ∧ ((μ (rw x2) 2 = -1) → Gg E 1 M_X7_howManyRows 4 [some (.inr 0), some (.inl x1), some (.inl (x2 + 1))] [] μ Q) ∧ (¬ (μ (rw x2) 2 = -1) → Gg E 1 M_X7_howManyRows 4 [some (.inr 0), some (.inl (x1 + 1)), some (.inl (x2 + 1))] [] μ Q)))) : Gg E 1 M_X7_howManyRows 4 [some (.inr 0), some (.inl x1), some (.inl x2)] [] μ Q := by
  refine r_iloadn (q := 5) DM_X7_howManyRows_4 rfl rfl ?_
  refine r_bipush (q := 7) (n := 8) DM_X7_howManyRows_5 rfl (by decide) ?_
  have i1 := h.1
  replace h := h.2
  refine r_icge (q := 10) (t := 31) DM_X7_howManyRows_7 rfl (by decide) ⟨⟨i1, (by decide)⟩, fun cc => ?_, fun cc => ?_⟩
  · replace h := h.1 cc
    refine r_iloadn (q := 32) DM_X7_howManyRows_31 rfl rfl ?_
    exact r_ret (v := some (.inl x1)) ⟨DM_X7_howManyRows_32, Or.inl rfl⟩ h
  · replace h := h.2 cc
    refine r_aloadn (q := 11) DM_X7_howManyRows_10 rfl rfl ?_
    refine r_getR (q := 14) (r := 1) DM_X7_howManyRows_11 rfl fRX7_11 sh_0 rfl ?_
    refine r_iloadn (q := 15) DM_X7_howManyRows_14 rfl rfl ?_
    refine v_aaR (q := 16) DM_X7_howManyRows_15 rfl ⟨h.1, fun w2 => ?_⟩
    replace h := h.2 w2
    have i3 := h.1
    replace h := h.2
    refine r_callVi [] (q := 19) DM_X7_howManyRows_16 rfl kM_X6_isMissing lRX7_81 (ro0 w2) rfl rfl (by decide) (Nat.le_of_ble_eq_true rfl) rfl (k_X6_isMissing w2 i3 ⟨_, rfl, ?_⟩)
    refine r_bine (q := 22) (t := 25) DM_X7_howManyRows_19 rfl (by decide) ⟨fun cc => ?_, fun cc => ?_⟩
    · replace h := h.1 cc
      refine v_iinc (q := 28) (ls' := [some (.inr 0), some (.inl x1), some (.inl (x2 + 1))]) DM_X7_howManyRows_25 rfl rfl (by decide) rfl ?_
      refine r_goto (q := 4) DM_X7_howManyRows_28 (by decide) ?_
      exact h
    · replace h := h.2 cc
      refine v_iinc (q := 25) (ls' := [some (.inr 0), some (.inl (x1 + 1)), some (.inl x2)]) DM_X7_howManyRows_22 rfl rfl (by decide) rfl ?_
      refine v_iinc (q := 28) (ls' := [some (.inr 0), some (.inl (x1 + 1)), some (.inl (x2 + 1))]) DM_X7_howManyRows_25 rfl rfl (by decide) rfl ?_
      refine r_goto (q := 4) DM_X7_howManyRows_28 (by decide) ?_
      exact h
theorem k_X7_howManyRows (hi : ∀ i, 0 ≤ i → i < 8 → inR (μ (rw i) 2)) (h : Q (some (.inl (cntI (fun i => decide (¬ μ (rw i) 2 = -1)) 8))) μ) : Cl E 1 M_X7_howManyRows [.inr 0] μ Q := by
  refine s_X7_howManyRows ?_
  refine up_ind (N := 8) (P := fun p => Gg E 1 M_X7_howManyRows 4 [some (.inr 0), some (.inl (cntI (fun i => decide (¬ μ (rw i) 2 = -1)) p)), some (.inl p)] [] μ Q) 0 (by decide) ?_ (fun p h1 h2 ih => ?_)
  · exact s_X7_howManyRows_4 ⟨by decide, fun _ => h, fun z => absurd (Int.le_refl _) z⟩
  · rw [cntI_succ h1] at ih
    refine s_X7_howManyRows_4 ⟨by omega, fun z => absurd z (by omega), fun _ => ⟨by omega, fun _ => ⟨hi p h1 h2, fun z => ?_, fun z => ?_⟩⟩⟩
    · rwa [decide_eq_false (fun q => q z), show bi false = 0 from rfl, Int.add_zero] at ih
    · rwa [decide_eq_true z, show bi true = 1 from rfl] at ih
end C25

/-! Court: what changes it. -/
theorem VC_ext {v w : CV} (h0 : ∀ i, i ≤ 5 → w 0 i = v 0 i) (h1 : ∀ j, 1 ≤ j → j ≤ 7 → w j = v j) (h : VC v) : VC w := by
  have a0 := h0 0 (by decide)
  have a1 := h0 1 (by decide)
  have a2 := h0 2 (by decide)
  have a3 := h0 3 (by decide)
  have a4 := h0 4 (by decide)
  have a5 := h0 5 (by decide)
  have b1 := h1 1 (by decide) (by decide)
  have b2 := h1 2 (by decide) (by decide)
  have b3 := h1 3 (by decide) (by decide)
  have b4 := h1 4 (by decide) (by decide)
  have b5 := h1 5 (by decide) (by decide)
  have b6 := h1 6 (by decide) (by decide)
  have b7 := h1 7 (by decide) (by decide)
  unfold VC pOK oOK at h ⊢
  rw [a0, a1, a2, a3, a4, a5, b1, b2, b3, b4, b5, b6, b7]
  exact h
theorem RgC.up {μ : Mem} {c j : Nat} {i x : Int} (h : RgC μ c) (hx : -2000000 ≤ x ∧ x ≤ 2000000) : RgC (up μ (c + j) i x) c := by
  intro j' i' hj
  unfold _root_.Jvm.Pilot.CAlphaCourtLaw_law_r2652_50ddd0.up
  split
  · exact hx
  · exact h j' i' hj
theorem up_out {μ : Mem} {c j : Nat} {i x : Int} (hj : j < 10) : ∀ k, (k < c ∨ c + 10 ≤ k) → up μ (c + j) i x k = μ k := fun k hk => up_ne (by omega)
theorem up_out0 {μ : Mem} {c : Nat} {i x : Int} : ∀ k, (k < c ∨ c + 10 ≤ k) → up μ c i x k = μ k := fun k hk => up_ne (by omega)
theorem upv_ne {v : CV} {j j' : Nat} {i x : Int} (h : j' ≠ j) : upv v j i x j' = v j' := by funext i'; simp [upv, h]
theorem upv_i {v : CV} {j j' : Nat} {i i' x : Int} (h : i' ≠ i) : upv v j i x j' i' = v j' i' := by simp [upv, h]
theorem upv_self {v : CV} {j : Nat} {i x : Int} : upv v j i x j i = x := by simp [upv]
/-- a court as another one, but for who came newly -/
def tkC (v w : CV) : CV := fun j i => if (j = 0 ∧ i ≤ 5) ∨ (1 ≤ j ∧ j ≤ 8) then w j i else v j i
def bgC (v : CV) : CV := fun j i => if j = 8 then -1000000 else if j = 0 ∧ i = 0 then 1 else if j = 0 ∧ (i = 1 ∨ i = 4 ∨ i = 5) then 0 else v j i
def tbC (v : CV) (n : Int) : CV := fun j i => if j = 8 ∧ 0 ≤ i ∧ i < n ∧ v 8 i = v 0 4 then -1000000 else v j i
section C24
variable {E : Ex} {μ : Mem} {Q : Option Vl → Mem → Prop} {c : Nat} {p d b i l t a s e : Int}
set_option maxRecDepth 20000 in
theorem s_X2_seatTill {E : Ex} {μ : Mem} {Q : Option Vl → Mem → Prop} {x1 x2 : Int} {c : Nat} (hc : coS c) (h : ∀ μ1 : Mem, μ1 = up μ c 15 0 → Gg E 4 M_X2_seatTill 15 [some (.inr c), some (.inl x1), some (.inl x2), some (.inl ((μ1 c 4) + 1)), some (.inl 0), none] [] μ1 Q) : Cl E 4 M_X2_seatTill [.inr c, .inl x1, .inl x2] μ Q := by
  show Gg E 4 M_X2_seatTill 0 [some (.inr c), some (.inl x1), some (.inl x2), none, none, none] [] μ Q
  refine r_aloadn (q := 1) DM_X2_seatTill_0 rfl rfl ?_
  refine r_iconst (q := 2) (n := 0) DM_X2_seatTill_1 rfl ?_
  refine v_put (q := 5) (ji := 15) DM_X2_seatTill_2 rfl pfRX2_116 (co0 hc) rfl rfl (Or.inl rfl) (fun μ1 e1 => ?_)
  replace h := h μ1 e1
  refine r_aloadn (q := 6) DM_X2_seatTill_5 rfl rfl ?_
  refine v_getI (q := 9) (ji := 4) DM_X2_seatTill_6 rfl fRX2_53 (co0 hc) rfl rfl ?_
  refine r_iconst (q := 10) (n := 1) DM_X2_seatTill_9 rfl ?_
  refine r_iadd (q := 11) DM_X2_seatTill_10 rfl ?_
  refine v_istoren (q := 12) (ls' := [some (.inr c), some (.inl x1), some (.inl x2), some (.inl ((μ1 c 4) + 1)), none, none]) DM_X2_seatTill_11 rfl (by decide) rfl ?_
  refine r_iconst (q := 13) (n := 0) DM_X2_seatTill_12 rfl ?_
  refine v_istore (q := 15) (ls' := [some (.inr c), some (.inl x1), some (.inl x2), some (.inl ((μ1 c 4) + 1)), some (.inl 0), none]) DM_X2_seatTill_13 rfl (by decide) rfl ?_
  exact h
set_option maxRecDepth 20000 in
theorem s_X2_seatTill_15 {E : Ex} {μ : Mem} {Q : Option Vl → Mem → Prop} {x1 x2 x3 x4 : Int} {c : Nat} (hc : coS c) (h : inR x4 ∧ inR (μ c 1) ∧ (x4 ≥ (μ c 1) → Q none μ) ∧ (¬ x4 ≥ (μ c 1) → (RgC μ c) ∧ (0 ≤ μ c 1 ∧ μ c 1 ≤ 6) ∧ inR x3 ∧ inR (cOpen (cv μ c) x3) ∧ inR x1 ∧ ((cOpen (cv μ c) x3) ≤ x1 → (RoOk E) ∧ (VC (cv μ c)) ∧ (0 ≤ (cOpen (cv μ c) x3) ∧ (cOpen (cv μ c) x3) < 2147483648) ∧ Gg E 4 M_X2_seatTill 45 [some (.inr c), some (.inl x1), some (.inl x2), some (.inl (cOpen (cv μ c) x3)), some (.inl x4), none] [.inl (cFirst (cv μ c) (cOpen (cv μ c) x3) x2)] μ Q) ∧ (¬ (cOpen (cv μ c) x3) ≤ x1 → Gg E 4 M_X2_seatTill 45 [some (.inr c), some (.inl x1), some (.inl x2), some (.inl (cOpen (cv μ c) x3)), some (.inl x4), none] [.inl (-1)] μ Q))) : Gg E 4 M_X2_seatTill 15 [some (.inr c), some (.inl x1), some (.inl x2), some (.inl x3), some (.inl x4), none] [] μ Q := by
  refine r_iload (q := 17) DM_X2_seatTill_15 rfl rfl ?_
  refine r_aloadn (q := 18) DM_X2_seatTill_17 rfl rfl ?_
  refine v_getI (q := 21) (ji := 1) DM_X2_seatTill_18 rfl fRX2_43 (co0 hc) rfl rfl ?_
  have i1 := h.1
  replace h := h.2
  have i2 := h.1
  replace h := h.2
  refine r_icge (q := 24) (t := 85) DM_X2_seatTill_21 rfl (by decide) ⟨⟨i1, i2⟩, fun cc => ?_, fun cc => ?_⟩
  · replace h := h.1 cc
    exact r_ret (v := none) ⟨DM_X2_seatTill_85, rfl⟩ h
  · replace h := h.2 cc
    refine r_aloadn (q := 25) DM_X2_seatTill_24 rfl rfl ?_
    refine r_iloadn (q := 26) DM_X2_seatTill_25 rfl rfl ?_
    have i3 := h.1
    replace h := h.2
    have i4 := h.1
    replace h := h.2
    have i5 := h.1
    replace h := h.2
    refine r_callVi [.inl x3] (q := 29) DM_X2_seatTill_26 rfl kM_X2_openDay lRX2_119 (co0 hc) rfl rfl (by decide) (Nat.le_of_ble_eq_true rfl) rfl (k_X2_openDay hc i3 i4 i5 ⟨_, rfl, ?_⟩)
    refine v_istoren (q := 30) (ls' := [some (.inr c), some (.inl x1), some (.inl x2), some (.inl (cOpen (cv μ c) x3)), some (.inl x4), none]) DM_X2_seatTill_29 rfl (by decide) rfl ?_
    refine r_iloadn (q := 31) DM_X2_seatTill_30 rfl rfl ?_
    refine r_iloadn (q := 32) DM_X2_seatTill_31 rfl rfl ?_
    have i6 := h.1
    replace h := h.2
    have i7 := h.1
    replace h := h.2
    refine r_icle (q := 35) (t := 39) DM_X2_seatTill_32 rfl (by decide) ⟨⟨i6, i7⟩, fun cc => ?_, fun cc => ?_⟩
    · replace h := h.1 cc
      refine r_aloadn (q := 40) DM_X2_seatTill_39 rfl rfl ?_
      refine r_iloadn (q := 41) DM_X2_seatTill_40 rfl rfl ?_
      refine r_iloadn (q := 42) DM_X2_seatTill_41 rfl rfl ?_
      have i8 := h.1
      replace h := h.2
      have i9 := h.1
      replace h := h.2
      have i10 := h.1
      replace h := h.2
      refine r_callVi [.inl (cOpen (cv μ c) x3), .inl x2] (q := 45) DM_X2_seatTill_42 rfl kM_X2_firstOn lRX2_122 (co0 hc) rfl rfl (by decide) (Nat.le_of_ble_eq_true rfl) rfl (k_X2_firstOn hc i3 i8 i9 i10 ⟨_, rfl, ?_⟩)
      exact h
    · replace h := h.2 cc
      refine r_iconst (q := 36) (n := (-1)) DM_X2_seatTill_35 rfl ?_
      refine r_goto (q := 45) DM_X2_seatTill_36 (by decide) ?_
      exact h
set_option maxRecDepth 20000 in
theorem s_X2_seatTill_45 {E : Ex} {μ : Mem} {Q : Option Vl → Mem → Prop} {x1 x2 x3 x4 y0 : Int} {c : Nat} (hc : coS c) (h : inR y0 ∧ (y0 ≠ (-1) → (0 ≤ y0 ∧ y0 < 6) ∧ ∀ μ2 : Mem, μ2 = up μ (c + 8) y0 x3 → (0 ≤ x4 ∧ x4 < 6) ∧ ∀ μ4 : Mem, μ4 = up μ2 (c + 9) x4 y0 → ∀ μ6 : Mem, μ6 = up μ4 c 15 (x4 + 1) → Gg E 4 M_X2_seatTill 15 [some (.inr c), some (.inl x1), some (.inl x2), some (.inl x3), some (.inl (x4 + 1)), none] [] μ6 Q) ∧ (y0 = (-1) → Q none μ)) : Gg E 4 M_X2_seatTill 45 [some (.inr c), some (.inl x1), some (.inl x2), some (.inl x3), some (.inl x4), none] [.inl y0] μ Q := by
  refine v_istore (q := 47) (ls' := [some (.inr c), some (.inl x1), some (.inl x2), some (.inl x3), some (.inl x4), some (.inl y0)]) DM_X2_seatTill_45 rfl (by decide) rfl ?_
  refine r_iload (q := 49) DM_X2_seatTill_47 rfl rfl ?_
  refine r_iconst (q := 50) (n := (-1)) DM_X2_seatTill_49 rfl ?_
  have i1 := h.1
  replace h := h.2
  refine r_icne (q := 53) (t := 54) DM_X2_seatTill_50 rfl (by decide) ⟨⟨i1, (by decide)⟩, fun cc => ?_, fun cc => ?_⟩
  · replace h := h.1 cc
    refine r_aloadn (q := 55) DM_X2_seatTill_54 rfl rfl ?_
    refine r_getR (q := 58) (r := c + 8) DM_X2_seatTill_55 rfl fRX2_33 (co0 hc) rfl ?_
    refine r_iload (q := 60) DM_X2_seatTill_58 rfl rfl ?_
    refine r_iloadn (q := 61) DM_X2_seatTill_60 rfl rfl ?_
    refine v_iast (q := 62) DM_X2_seatTill_61 rfl (co8 hc) (by decide) ⟨h.1, fun μ2 e2 => ?_⟩
    have i3 := h.1
    replace h := h.2 μ2 e2
    refine r_aloadn (q := 63) DM_X2_seatTill_62 rfl rfl ?_
    refine r_getR (q := 66) (r := c + 9) DM_X2_seatTill_63 rfl fRX2_36 (co0 hc) rfl ?_
    refine r_iload (q := 68) DM_X2_seatTill_66 rfl rfl ?_
    refine r_iload (q := 70) DM_X2_seatTill_68 rfl rfl ?_
    refine v_iast (q := 71) DM_X2_seatTill_70 rfl (co9 hc) (by decide) ⟨h.1, fun μ4 e4 => ?_⟩
    have i5 := h.1
    replace h := h.2 μ4 e4
    refine r_aloadn (q := 72) DM_X2_seatTill_71 rfl rfl ?_
    refine r_iload (q := 74) DM_X2_seatTill_72 rfl rfl ?_
    refine r_iconst (q := 75) (n := 1) DM_X2_seatTill_74 rfl ?_
    refine r_iadd (q := 76) DM_X2_seatTill_75 rfl ?_
    refine v_put (q := 79) (ji := 15) DM_X2_seatTill_76 rfl pfRX2_116 (co0 hc) rfl rfl (Or.inl rfl) (fun μ6 e6 => ?_)
    replace h := h μ6 e6
    refine v_iinc (q := 82) (ls' := [some (.inr c), some (.inl x1), some (.inl x2), some (.inl x3), some (.inl (x4 + 1)), some (.inl y0)]) DM_X2_seatTill_79 rfl rfl (by decide) rfl ?_
    refine r_goto (q := 15) DM_X2_seatTill_82 (by decide) ?_
    exact Gg.weak [true, true, true, true, true, false] h
  · replace h := h.2 cc
    exact r_ret (v := none) ⟨DM_X2_seatTill_53, rfl⟩ h
theorem k_X2_seatTill (hc : coS c) (hg : RgC μ c) (hR : RoOk E) (hV : VC (cv μ c)) (he : 0 ≤ e ∧ e ≤ 900000) (h : ∀ μ1 : Mem, chC μ μ1 c (cSeats (cv μ c) e b) → Q none μ1) : Cl E 4 M_X2_seatTill [.inr c, .inl e, .inl b] μ Q := by
  have key : ∀ (n : Nat) (μ' : Mem) (f k : Int), RgC μ' c → VC (cv μ' c) → 0 ≤ f → f ≤ 900001 → 0 ≤ k → k + n = μ' c 1 → (∀ μ1 : Mem, chC μ' μ1 c (cTill e b n (cv μ' c) f) → Q none μ1) → Gg E 4 M_X2_seatTill 15 [some (.inr c), some (.inl e), some (.inl b), some (.inl f), some (.inl k), none] [] μ' Q := by
    intro n
    induction n with
    | zero =>
      intro μ' f k hg hV f0 f1 k0 hk hq
      have g1 := hg.f 1
      exact s_X2_seatTill_15 hc ⟨by omega, by omega, fun _ => hq μ' ⟨rfl, fun _ _ => rfl⟩, fun z => absurd (show k ≥ μ' c 1 by omega) z⟩
    | succ n ih =>
      intro μ' f k hg hV f0 f1 k0 hk hq
      have v1 := hV.2.1
      simp only [cv, Nat.add_zero] at v1
      have ho := cOpen_rng (v := cv μ' c) v1.1 f0 (by omega)
      have hf := cFirst_rng (v := cv μ' c) (d := cOpen (cv μ' c) f) (b := b) (μ' c 1) v1.1
      replace hf : cFirst (cv μ' c) (cOpen (cv μ' c) f) b = -1 ∨ (0 ≤ cFirst (cv μ' c) (cOpen (cv μ' c) f) b ∧ cFirst (cv μ' c) (cOpen (cv μ' c) f) b < μ' c 1) := hf
      refine s_X2_seatTill_15 hc ⟨by omega, by omega, fun z => absurd z (by omega), fun _ => ⟨hg, by omega, by omega, by omega, by omega, fun z => ⟨hR, hV, by omega, ?_⟩, fun z => ?_⟩⟩
      · refine s_X2_seatTill_45 hc ⟨by omega, fun z2 => ⟨by omega, fun μ2 e2 => ⟨by omega, fun μ3 e3 μ4 e4 => ?_⟩⟩, fun z2 => ?_⟩
        · have e5 : cv μ4 c = upv (upv (upv (cv μ' c) 8 (cFirst (cv μ' c) (cOpen (cv μ' c) f) b) (cOpen (cv μ' c) f)) 9 k (cFirst (cv μ' c) (cOpen (cv μ' c) f) b)) 0 15 (k + 1) := by rw [e4, cv_up0, e3, cv_up, e2, cv_up]
          have e6 : ∀ k, (k < c ∨ c + 10 ≤ k) → μ4 k = μ' k := by
            intro k hk
            rw [e4, up_out0 k hk, e3, up_out (by decide) k hk, e2, up_out (by decide) k hk]
          have e7 : μ4 c 1 = μ' c 1 := by
            have := congrFun (congrFun e5 0) 1
            rwa [upv_i (by decide), upv_ne (by decide), upv_ne (by decide)] at this
          refine ih μ4 (cOpen (cv μ' c) f) (k + 1) ?_ ?_ (by omega) (by omega) (by omega) (by omega) (fun μ1 h1 => hq μ1 ⟨?_, fun k hk => (h1.2 k hk).trans (e6 k hk)⟩)
          · rw [e4, e3, e2]
            exact RgC.up (j := 0) (((hg.up (by omega)).up (by omega))) (by omega)
          · rw [e5]
            refine VC_ext (fun i hi => ?_) (fun j h1 h2 => ?_) hV
            · rw [upv_i (by omega), upv_ne (by decide), upv_ne (by decide)]
            · rw [upv_ne (by omega), upv_ne (by omega), upv_ne (by omega)]
          · rw [h1.1, e5]
            rw [cTill, if_pos ⟨z, z2⟩, show cv μ' c 0 1 - ((n : Int) + 1) = k by simp only [cv, Nat.add_zero]; omega]
        · refine hq μ' ⟨?_, fun _ _ => rfl⟩
          rw [cTill, if_neg (fun q => q.2 z2)]
      · refine s_X2_seatTill_45 hc ⟨by omega, fun z2 => absurd rfl z2, fun z2 => hq μ' ⟨?_, fun _ _ => rfl⟩⟩
        rw [cTill, if_neg (fun q => z q.1)]
  refine s_X2_seatTill hc (fun μ1 e1 => ?_)
  have v1 := hV.2.1
  have v4 := hV.2.2.2.1
  simp only [cv, Nat.add_zero] at v1 v4
  have c1 : cv μ1 c = upv (cv μ c) 0 15 0 := by rw [e1, cv_up0]
  have c2 : μ1 c 4 = μ c 4 := by rw [e1, up_off (Or.inr (by decide))]
  have c3 : μ1 c 1 = μ c 1 := by rw [e1, up_off (Or.inr (by decide))]
  refine key (μ c 1).toNat μ1 (μ1 c 4 + 1) 0 ?_ ?_ (by omega) (by omega) (by omega) (by omega) (fun μ2 h2 => h μ2 ⟨?_, fun k hk => ?_⟩)
  · rw [e1]; exact RgC.up (j := 0) hg (by omega)
  · rw [c1]
    exact VC_ext (fun i hi => by rw [upv_i (by omega)]) (fun j h1 h2 => by rw [upv_ne (by omega)]) hV
  · rw [h2.1, c1, c2]; rfl
  · rw [h2.2 k hk, e1, up_out0 k hk]
set_option maxRecDepth 20000 in
theorem s_X2_takeBackDay {E : Ex} {μ : Mem} {Q : Option Vl → Mem → Prop} {c : Nat} (hc : coS c) (h : Gg E 0 M_X2_takeBackDay 2 [some (.inr c), some (.inl 0)] [] μ Q) : Cl E 0 M_X2_takeBackDay [.inr c] μ Q := by
  show Gg E 0 M_X2_takeBackDay 0 [some (.inr c), none] [] μ Q
  refine r_iconst (q := 1) (n := 0) DM_X2_takeBackDay_0 rfl ?_
  refine v_istoren (q := 2) (ls' := [some (.inr c), some (.inl 0)]) DM_X2_takeBackDay_1 rfl (by decide) rfl ?_
  exact h
set_option maxRecDepth 20000 in
theorem s_X2_takeBackDay_2 {E : Ex} {μ : Mem} {Q : Option Vl → Mem → Prop} {x1 : Int} {c : Nat} (hc : coS c) (h : inR x1 ∧ inR (μ c 1) ∧ (x1 ≥ (μ c 1) → ∀ μ3 : Mem, μ3 = up μ c 4 ((μ c 4) - 1) → Q none μ3) ∧ (¬ x1 ≥ (μ c 1) → (0 ≤ x1 ∧ x1 < 6) ∧ inR (μ (c + 8) x1) ∧ inR (μ c 4) ∧ ((μ (c + 8) x1) ≠ (μ c 4) → Gg E 0 M_X2_takeBackDay 2 [some (.inr c), some (.inl (x1 + 1))] [] μ Q) ∧ ((μ (c + 8) x1) = (μ c 4) → ∀ μ7 : Mem, μ7 = up μ (c + 8) x1 (-1000000) → Gg E 0 M_X2_takeBackDay 2 [some (.inr c), some (.inl (x1 + 1))] [] μ7 Q))) : Gg E 0 M_X2_takeBackDay 2 [some (.inr c), some (.inl x1)] [] μ Q := by
  refine r_iloadn (q := 3) DM_X2_takeBackDay_2 rfl rfl ?_
  refine r_aloadn (q := 4) DM_X2_takeBackDay_3 rfl rfl ?_
  refine v_getI (q := 7) (ji := 1) DM_X2_takeBackDay_4 rfl fRX2_43 (co0 hc) rfl rfl ?_
  have i1 := h.1
  replace h := h.2
  have i2 := h.1
  replace h := h.2
  refine r_icge (q := 10) (t := 37) DM_X2_takeBackDay_7 rfl (by decide) ⟨⟨i1, i2⟩, fun cc => ?_, fun cc => ?_⟩
  · replace h := h.1 cc
    refine r_aloadn (q := 38) DM_X2_takeBackDay_37 rfl rfl ?_
    refine r_dup (q := 39) DM_X2_takeBackDay_38 rfl ?_
    refine v_getI (q := 42) (ji := 4) DM_X2_takeBackDay_39 rfl fRX2_53 (co0 hc) rfl rfl ?_
    refine r_iconst (q := 43) (n := 1) DM_X2_takeBackDay_42 rfl ?_
    refine r_isub (q := 44) DM_X2_takeBackDay_43 rfl ?_
    refine v_put (q := 47) (ji := 4) DM_X2_takeBackDay_44 rfl pfRX2_53 (co0 hc) rfl rfl (Or.inl rfl) (fun μ3 e3 => ?_)
    replace h := h μ3 e3
    exact r_ret (v := none) ⟨DM_X2_takeBackDay_47, rfl⟩ h
  · replace h := h.2 cc
    refine r_aloadn (q := 11) DM_X2_takeBackDay_10 rfl rfl ?_
    refine r_getR (q := 14) (r := c + 8) DM_X2_takeBackDay_11 rfl fRX2_33 (co0 hc) rfl ?_
    refine r_iloadn (q := 15) DM_X2_takeBackDay_14 rfl rfl ?_
    refine r_iald (q := 16) DM_X2_takeBackDay_15 rfl (co8 hc) (by decide) ⟨h.1, ?_⟩
    have i4 := h.1
    replace h := h.2
    refine r_aloadn (q := 17) DM_X2_takeBackDay_16 rfl rfl ?_
    refine v_getI (q := 20) (ji := 4) DM_X2_takeBackDay_17 rfl fRX2_53 (co0 hc) rfl rfl ?_
    have i5 := h.1
    replace h := h.2
    have i6 := h.1
    replace h := h.2
    refine r_icne (q := 23) (t := 31) DM_X2_takeBackDay_20 rfl (by decide) ⟨⟨i5, i6⟩, fun cc => ?_, fun cc => ?_⟩
    · replace h := h.1 cc
      refine v_iinc (q := 34) (ls' := [some (.inr c), some (.inl (x1 + 1))]) DM_X2_takeBackDay_31 rfl rfl (by decide) rfl ?_
      refine r_goto (q := 2) DM_X2_takeBackDay_34 (by decide) ?_
      exact h
    · replace h := h.2 cc
      refine r_aloadn (q := 24) DM_X2_takeBackDay_23 rfl rfl ?_
      refine r_getR (q := 27) (r := c + 8) DM_X2_takeBackDay_24 rfl fRX2_33 (co0 hc) rfl ?_
      refine r_iloadn (q := 28) DM_X2_takeBackDay_27 rfl rfl ?_
      refine r_ldc (q := 30) (n := (-1000000)) DM_X2_takeBackDay_28 rfl nRX2_65 ?_
      refine v_iast (q := 31) DM_X2_takeBackDay_30 rfl (co8 hc) (by decide) ⟨i4, fun μ7 e7 => ?_⟩
      replace h := h μ7 e7
      refine v_iinc (q := 34) (ls' := [some (.inr c), some (.inl (x1 + 1))]) DM_X2_takeBackDay_31 rfl rfl (by decide) rfl ?_
      refine r_goto (q := 2) DM_X2_takeBackDay_34 (by decide) ?_
      exact h
theorem k_X2_takeBackDay (hc : coS c) (hg : RgC μ c) (hn : 0 ≤ μ c 1 ∧ μ c 1 ≤ 6) (h : ∀ μ1 : Mem, chC μ μ1 c (upv (tbC (cv μ c) (μ c 1)) 0 4 (μ c 4 - 1)) → Q none μ1) : Cl E 0 M_X2_takeBackDay [.inr c] μ Q := by
  refine s_X2_takeBackDay hc ?_
  suffices hh : ∀ μ' : Mem, chC μ μ' c (tbC (cv μ c) 0) → Gg E 0 M_X2_takeBackDay 2 [some (.inr c), some (.inl 0)] [] μ' Q from hh μ ⟨by funext j i; simp only [tbC]; rw [if_neg (by omega)], fun _ _ => rfl⟩
  refine up_ind (N := μ c 1) (P := fun p => ∀ μ' : Mem, chC μ μ' c (tbC (cv μ c) p) → Gg E 0 M_X2_takeBackDay 2 [some (.inr c), some (.inl p)] [] μ' Q) 0 hn.1 (fun μ' h' => ?_) (fun p h1 h2 ih μ' h' => ?_)
  · have f0 : ∀ i, μ' c i = μ c i := fun i => by have := congrFun (congrFun h'.1 0) i; simpa [tbC, cv] using this
    refine s_X2_takeBackDay_2 hc ⟨by omega, by rw [f0]; omega, fun _ μ3 e3 => h μ3 ⟨?_, fun k hk => ?_⟩, fun z => absurd (show μ c 1 ≥ μ' c 1 by rw [f0]; omega) z⟩
    · rw [e3, cv_up0, h'.1, f0]
    · rw [e3, up_out0 k hk, h'.2 k hk]
  · have f0 : ∀ i, μ' c i = μ c i := fun i => by have := congrFun (congrFun h'.1 0) i; simpa [tbC, cv] using this
    have f8 : μ' (c + 8) p = μ (c + 8) p := by have := congrFun (congrFun h'.1 8) p; simpa [tbC, cv] using this
    have g8 := hg 8 p (by decide)
    have g4 := hg.f 4
    refine s_X2_takeBackDay_2 hc ⟨by omega, by rw [f0]; omega, fun z => absurd z (by rw [f0]; omega), fun _ => ⟨by omega, by rw [f8]; omega, by rw [f0]; omega, fun z => ih μ' ⟨?_, h'.2⟩, fun z μ7 e7 => ih μ7 ⟨?_, fun k hk => by rw [e7, up_out (by decide) k hk, h'.2 k hk]⟩⟩⟩
    · rw [h'.1]
      rw [f8, f0] at z
      funext j i
      simp only [tbC]
      by_cases hj : j = 8 ∧ i = p
      · obtain ⟨rfl, rfl⟩ := hj
        rw [if_neg (by omega), if_neg (fun q => z q.2.2.2)]
      · by_cases hq : j = 8 ∧ 0 ≤ i ∧ i < p ∧ cv μ c 8 i = cv μ c 0 4
        · rw [if_pos hq, if_pos ⟨hq.1, hq.2.1, by omega, hq.2.2.2⟩]
        · rw [if_neg hq, if_neg (fun q => hq ⟨q.1, q.2.1, by have := q.2.2.1; have : i ≠ p := fun z => hj ⟨q.1, z⟩; omega, q.2.2.2⟩)]
    · rw [e7, cv_up, h'.1]
      rw [f8, f0] at z
      funext j i
      simp only [tbC, upv]
      by_cases hj : j = 8 ∧ i = p
      · obtain ⟨rfl, rfl⟩ := hj
        rw [if_pos ⟨rfl, rfl⟩, if_pos ⟨rfl, h1, by omega, z⟩]
      · rw [if_neg hj]
        by_cases hq : j = 8 ∧ 0 ≤ i ∧ i < p ∧ cv μ c 8 i = cv μ c 0 4
        · rw [if_pos hq, if_pos ⟨hq.1, hq.2.1, by omega, hq.2.2.2⟩]
        · rw [if_neg hq, if_neg (fun q => hq ⟨q.1, q.2.1, by have := q.2.2.1; have : i ≠ p := fun z => hj ⟨q.1, z⟩; omega, q.2.2.2⟩)]
set_option maxRecDepth 20000 in
theorem s_X2_tellOrder {E : Ex} {μ : Mem} {Q : Option Vl → Mem → Prop} {x1 x2 : Int} {c : Nat} (hc : coS c) (h : (0 ≤ x1 ∧ x1 < 8) ∧ ∀ μ1 : Mem, μ1 = up μ (c + 1) x1 x2 → (0 ≤ x2 ∧ x2 < 8) ∧ ∀ μ3 : Mem, μ3 = up μ1 (c + 2) x2 x1 → Q none μ3) : Cl E 0 M_X2_tellOrder [.inr c, .inl x1, .inl x2] μ Q := by
  show Gg E 0 M_X2_tellOrder 0 [some (.inr c), some (.inl x1), some (.inl x2)] [] μ Q
  refine r_aloadn (q := 1) DM_X2_tellOrder_0 rfl rfl ?_
  refine r_getR (q := 4) (r := c + 1) DM_X2_tellOrder_1 rfl fRX2_9 (co0 hc) rfl ?_
  refine r_iloadn (q := 5) DM_X2_tellOrder_4 rfl rfl ?_
  refine r_iloadn (q := 6) DM_X2_tellOrder_5 rfl rfl ?_
  refine v_iast (q := 7) DM_X2_tellOrder_6 rfl (co1 hc) (by decide) ⟨h.1, fun μ1 e1 => ?_⟩
  have i2 := h.1
  replace h := h.2 μ1 e1
  refine r_aloadn (q := 8) DM_X2_tellOrder_7 rfl rfl ?_
  refine r_getR (q := 11) (r := c + 2) DM_X2_tellOrder_8 rfl fRX2_15 (co0 hc) rfl ?_
  refine r_iloadn (q := 12) DM_X2_tellOrder_11 rfl rfl ?_
  refine r_iloadn (q := 13) DM_X2_tellOrder_12 rfl rfl ?_
  refine v_iast (q := 14) DM_X2_tellOrder_13 rfl (co2 hc) (by decide) ⟨h.1, fun μ3 e3 => ?_⟩
  have i4 := h.1
  replace h := h.2 μ3 e3
  exact r_ret (v := none) ⟨DM_X2_tellOrder_14, rfl⟩ h
theorem k_X2_tellOrder (hc : coS c) (hp : 0 ≤ p ∧ p < 8) (hl : 0 ≤ l ∧ l < 8) (h : ∀ μ1 : Mem, μ1 = up (up μ (c + 1) p l) (c + 2) l p → Q none μ1) : Cl E 0 M_X2_tellOrder [.inr c, .inl p, .inl l] μ Q := s_X2_tellOrder hc ⟨hp, fun μ1 e1 => ⟨hl, fun μ2 e2 => h μ2 (by rw [e2, e1])⟩⟩
set_option maxRecDepth 20000 in
theorem s_X2_begin {E : Ex} {μ : Mem} {Q : Option Vl → Mem → Prop} {c : Nat} (hc : coS c) (h : ∀ μ1 : Mem, μ1 = up μ c 0 1 → ∀ μ2 : Mem, μ2 = up μ1 c 1 0 → ∀ μ3 : Mem, μ3 = up μ2 c 4 0 → ∀ μ4 : Mem, μ4 = up μ3 c 5 0 → Gg E 0 M_X2_begin 22 [some (.inr c), some (.inl 0)] [] μ4 Q) : Cl E 0 M_X2_begin [.inr c] μ Q := by
  show Gg E 0 M_X2_begin 0 [some (.inr c), none] [] μ Q
  refine r_aloadn (q := 1) DM_X2_begin_0 rfl rfl ?_
  refine r_iconst (q := 2) (n := 1) DM_X2_begin_1 rfl ?_
  refine v_put (q := 5) (ji := 0) DM_X2_begin_2 rfl pfRX2_39 (co0 hc) rfl rfl (Or.inr ⟨rfl, Or.inr rfl⟩) (fun μ1 e1 => ?_)
  replace h := h μ1 e1
  refine r_aloadn (q := 6) DM_X2_begin_5 rfl rfl ?_
  refine r_iconst (q := 7) (n := 0) DM_X2_begin_6 rfl ?_
  refine v_put (q := 10) (ji := 1) DM_X2_begin_7 rfl pfRX2_43 (co0 hc) rfl rfl (Or.inl rfl) (fun μ2 e2 => ?_)
  replace h := h μ2 e2
  refine r_aloadn (q := 11) DM_X2_begin_10 rfl rfl ?_
  refine r_iconst (q := 12) (n := 0) DM_X2_begin_11 rfl ?_
  refine v_put (q := 15) (ji := 4) DM_X2_begin_12 rfl pfRX2_53 (co0 hc) rfl rfl (Or.inl rfl) (fun μ3 e3 => ?_)
  replace h := h μ3 e3
  refine r_aloadn (q := 16) DM_X2_begin_15 rfl rfl ?_
  refine r_iconst (q := 17) (n := 0) DM_X2_begin_16 rfl ?_
  refine v_put (q := 20) (ji := 5) DM_X2_begin_17 rfl pfRX2_56 (co0 hc) rfl rfl (Or.inl rfl) (fun μ4 e4 => ?_)
  replace h := h μ4 e4
  refine r_iconst (q := 21) (n := 0) DM_X2_begin_20 rfl ?_
  refine v_istoren (q := 22) (ls' := [some (.inr c), some (.inl 0)]) DM_X2_begin_21 rfl (by decide) rfl ?_
  exact h
set_option maxRecDepth 20000 in
theorem s_X2_begin_22 {E : Ex} {μ : Mem} {Q : Option Vl → Mem → Prop} {x1 : Int} {c : Nat} (hc : coS c) (h : inR x1 ∧ (x1 ≥ 6 → Q none μ) ∧ (¬ x1 ≥ 6 → (0 ≤ x1 ∧ x1 < 6) ∧ ∀ μ2 : Mem, μ2 = up μ (c + 8) x1 (-1000000) → Gg E 0 M_X2_begin 22 [some (.inr c), some (.inl (x1 + 1))] [] μ2 Q)) : Gg E 0 M_X2_begin 22 [some (.inr c), some (.inl x1)] [] μ Q := by
  refine r_iloadn (q := 23) DM_X2_begin_22 rfl rfl ?_
  refine r_bipush (q := 25) (n := 6) DM_X2_begin_23 rfl (by decide) ?_
  have i1 := h.1
  replace h := h.2
  refine r_icge (q := 28) (t := 42) DM_X2_begin_25 rfl (by decide) ⟨⟨i1, (by decide)⟩, fun cc => ?_, fun cc => ?_⟩
  · replace h := h.1 cc
    exact r_ret (v := none) ⟨DM_X2_begin_42, rfl⟩ h
  · replace h := h.2 cc
    refine r_aloadn (q := 29) DM_X2_begin_28 rfl rfl ?_
    refine r_getR (q := 32) (r := c + 8) DM_X2_begin_29 rfl fRX2_33 (co0 hc) rfl ?_
    refine r_iloadn (q := 33) DM_X2_begin_32 rfl rfl ?_
    refine r_ldc (q := 35) (n := (-1000000)) DM_X2_begin_33 rfl nRX2_65 ?_
    refine v_iast (q := 36) DM_X2_begin_35 rfl (co8 hc) (by decide) ⟨h.1, fun μ2 e2 => ?_⟩
    have i3 := h.1
    replace h := h.2 μ2 e2
    refine v_iinc (q := 39) (ls' := [some (.inr c), some (.inl (x1 + 1))]) DM_X2_begin_36 rfl rfl (by decide) rfl ?_
    refine r_goto (q := 22) DM_X2_begin_39 (by decide) ?_
    exact h
theorem co_len {c : Nat} (h : coS c) : c + 9 < 100 := shp_lt (co9 h) (Or.inr (by decide))
theorem k_X2_begin (hc : coS c) (h : ∀ μ1 : Mem, chC μ μ1 c (bgC (cv μ c)) → Q none μ1) : Cl E 0 M_X2_begin [.inr c] μ Q := by
  refine Cl.agr (s_X2_begin hc (fun μ1 e1 μ2 e2 μ3 e3 μ4 e4 => ?_))
  have key : ∀ p, 0 ≤ p → p ≤ 6 → ∀ μ' : Mem, (∀ i, 0 ≤ i → i < p → μ' (c + 8) i = -1000000) → (∀ k, k ≠ c + 8 → μ' k = μ4 k) → Gg E 0 M_X2_begin 22 [some (.inr c), some (.inl p)] [] μ' (fun v μ' => ∃ μ'', agr μ' μ'' ∧ Q v μ'') := by
    intro p0 hp0 hp6
    refine up_ind (N := 6) (P := fun p => ∀ μ' : Mem, (∀ i, 0 ≤ i → i < p → μ' (c + 8) i = -1000000) → (∀ k, k ≠ c + 8 → μ' k = μ4 k) → Gg E 0 M_X2_begin 22 [some (.inr c), some (.inl p)] [] μ' (fun v μ' => ∃ μ'', agr μ' μ'' ∧ Q v μ'')) p0 hp6 (fun μ' h1 h2 => ?_) (fun p q1 q2 ih μ' h1 h2 => ?_)
    · refine s_X2_begin_22 hc ⟨by decide, fun _ => ⟨fun k i => if k = c + 8 then -1000000 else μ4 k i, ?_, h _ ⟨?_, fun k hk => ?_⟩⟩, fun z => absurd (Int.le_refl _) z⟩
      · intro k i hk i0 i1
        dsimp only
        by_cases hk8 : k = c + 8
        · subst hk8
          rw [co8 hc] at i1
          rw [if_pos rfl, h1 i i0 (by simpa using i1)]
        · rw [if_neg hk8, h2 k hk8]
      · funext j i
        simp only [cv, bgC]
        by_cases hj : j = 8
        · rw [if_pos (by omega), if_pos hj]
        · rw [if_neg (by omega), if_neg hj, e4, e3, e2, e1]
          unfold up
          by_cases hj0 : j = 0
          · subst hj0
            simp only [Nat.add_zero, true_and]
            by_cases i0 : i = 0
            · subst i0; simp
            · by_cases i1 : i = 1
              · subst i1; simp
              · by_cases i4 : i = 4
                · subst i4; simp
                · by_cases i5 : i = 5
                  · subst i5; simp
                  · simp [i0, i1, i4, i5]
          · have : ¬ c + j = c := by omega
            simp [hj0]
      · funext i
        dsimp only
        rw [if_neg (by omega), e4, e3, e2, e1, up_ne (by omega), up_ne (by omega), up_ne (by omega), up_ne (by omega)]
    · refine s_X2_begin_22 hc ⟨by omega, fun z => absurd z (by omega), fun _ => ⟨by omega, fun μ2 e2 => ih μ2 (fun i i0 i1 => ?_) (fun k hk => by rw [e2, up_ne hk, h2 k hk])⟩⟩
      rw [e2]
      by_cases hip : i = p
      · subst hip; exact up_self
      · rw [up_off (Or.inr hip)]; exact h1 i i0 (by omega)
  exact key 0 (by decide) (by decide) μ4 (fun i h1 h2 => by omega) (fun k _ => rfl)
set_option maxRecDepth 20000 in
theorem s_X2_takeFrom {E : Ex} {μ : Mem} {Q : Option Vl → Mem → Prop} {c : Nat} (hc : coS c) {o : Nat} (ho : coS o) (h : ((μ o 0) = 0 ∨ (μ o 0) = 1) ∧ ∀ μ1 : Mem, μ1 = up μ c 0 (μ o 0) → ∀ μ2 : Mem, μ2 = up μ1 c 1 (μ1 o 1) → ∀ μ3 : Mem, μ3 = up μ2 c 2 (μ2 o 2) → ∀ μ4 : Mem, μ4 = up μ3 c 3 (μ3 o 3) → ∀ μ5 : Mem, μ5 = up μ4 c 4 (μ4 o 4) → ∀ μ6 : Mem, μ6 = up μ5 c 5 (μ5 o 5) → ∀ μ7 : Mem, μ7 = cpm μ6 (o + 1) 0 (c + 1) 0 8 → ∀ μ8 : Mem, μ8 = cpm μ7 (o + 2) 0 (c + 2) 0 8 → ∀ μ9 : Mem, μ9 = cpm μ8 (o + 3) 0 (c + 3) 0 6 → ∀ μ10 : Mem, μ10 = cpm μ9 (o + 4) 0 (c + 4) 0 6 → ∀ μ11 : Mem, μ11 = cpm μ10 (o + 5) 0 (c + 5) 0 24 → ∀ μ12 : Mem, μ12 = cpm μ11 (o + 6) 0 (c + 6) 0 6 → ∀ μ13 : Mem, μ13 = cpm μ12 (o + 7) 0 (c + 7) 0 6 → ∀ μ14 : Mem, μ14 = cpm μ13 (o + 8) 0 (c + 8) 0 6 → Q none μ14) : Cl E 1 M_X2_takeFrom [.inr c, .inr o] μ Q := by
  show Gg E 1 M_X2_takeFrom 0 [some (.inr c), some (.inr o)] [] μ Q
  refine r_aloadn (q := 1) DM_X2_takeFrom_0 rfl rfl ?_
  refine r_aloadn (q := 2) DM_X2_takeFrom_1 rfl rfl ?_
  refine v_getI (q := 5) (ji := 0) DM_X2_takeFrom_2 rfl fRX2_39 (co0 ho) rfl rfl ?_
  refine v_put (q := 8) (ji := 0) DM_X2_takeFrom_5 rfl pfRX2_39 (co0 hc) rfl rfl (Or.inr ⟨rfl, h.1⟩) (fun μ1 e1 => ?_)
  replace h := h.2
  replace h := h μ1 e1
  refine r_aloadn (q := 9) DM_X2_takeFrom_8 rfl rfl ?_
  refine r_aloadn (q := 10) DM_X2_takeFrom_9 rfl rfl ?_
  refine v_getI (q := 13) (ji := 1) DM_X2_takeFrom_10 rfl fRX2_43 (co0 ho) rfl rfl ?_
  refine v_put (q := 16) (ji := 1) DM_X2_takeFrom_13 rfl pfRX2_43 (co0 hc) rfl rfl (Or.inl rfl) (fun μ2 e2 => ?_)
  replace h := h μ2 e2
  refine r_aloadn (q := 17) DM_X2_takeFrom_16 rfl rfl ?_
  refine r_aloadn (q := 18) DM_X2_takeFrom_17 rfl rfl ?_
  refine v_getI (q := 21) (ji := 2) DM_X2_takeFrom_18 rfl fRX2_47 (co0 ho) rfl rfl ?_
  refine v_put (q := 24) (ji := 2) DM_X2_takeFrom_21 rfl pfRX2_47 (co0 hc) rfl rfl (Or.inl rfl) (fun μ3 e3 => ?_)
  replace h := h μ3 e3
  refine r_aloadn (q := 25) DM_X2_takeFrom_24 rfl rfl ?_
  refine r_aloadn (q := 26) DM_X2_takeFrom_25 rfl rfl ?_
  refine v_getI (q := 29) (ji := 3) DM_X2_takeFrom_26 rfl fRX2_50 (co0 ho) rfl rfl ?_
  refine v_put (q := 32) (ji := 3) DM_X2_takeFrom_29 rfl pfRX2_50 (co0 hc) rfl rfl (Or.inl rfl) (fun μ4 e4 => ?_)
  replace h := h μ4 e4
  refine r_aloadn (q := 33) DM_X2_takeFrom_32 rfl rfl ?_
  refine r_aloadn (q := 34) DM_X2_takeFrom_33 rfl rfl ?_
  refine v_getI (q := 37) (ji := 4) DM_X2_takeFrom_34 rfl fRX2_53 (co0 ho) rfl rfl ?_
  refine v_put (q := 40) (ji := 4) DM_X2_takeFrom_37 rfl pfRX2_53 (co0 hc) rfl rfl (Or.inl rfl) (fun μ5 e5 => ?_)
  replace h := h μ5 e5
  refine r_aloadn (q := 41) DM_X2_takeFrom_40 rfl rfl ?_
  refine r_aloadn (q := 42) DM_X2_takeFrom_41 rfl rfl ?_
  refine v_getI (q := 45) (ji := 5) DM_X2_takeFrom_42 rfl fRX2_56 (co0 ho) rfl rfl ?_
  refine v_put (q := 48) (ji := 5) DM_X2_takeFrom_45 rfl pfRX2_56 (co0 hc) rfl rfl (Or.inl rfl) (fun μ6 e6 => ?_)
  replace h := h μ6 e6
  refine r_aloadn (q := 49) DM_X2_takeFrom_48 rfl rfl ?_
  refine r_getR (q := 52) (r := o + 1) DM_X2_takeFrom_49 rfl fRX2_9 (co0 ho) rfl ?_
  refine r_iconst (q := 53) (n := 0) DM_X2_takeFrom_52 rfl ?_
  refine r_aloadn (q := 54) DM_X2_takeFrom_53 rfl rfl ?_
  refine r_getR (q := 57) (r := c + 1) DM_X2_takeFrom_54 rfl fRX2_9 (co0 hc) rfl ?_
  refine r_iconst (q := 58) (n := 0) DM_X2_takeFrom_57 rfl ?_
  refine r_bipush (q := 60) (n := 8) DM_X2_takeFrom_58 rfl (by decide) ?_
  refine v_acpy (q := 63) DM_X2_takeFrom_60 rfl lRX2_59 acp_na acp_st acp_in (co1 ho) (co1 hc) ⟨by decide, (by decide)⟩ ⟨by decide, (by decide)⟩ (by decide) (Nat.le_of_ble_eq_true rfl) ⟨by decide, fun μ7 e7 => ?_⟩
  replace h := h μ7 e7
  refine r_aloadn (q := 64) DM_X2_takeFrom_63 rfl rfl ?_
  refine r_getR (q := 67) (r := o + 2) DM_X2_takeFrom_64 rfl fRX2_15 (co0 ho) rfl ?_
  refine r_iconst (q := 68) (n := 0) DM_X2_takeFrom_67 rfl ?_
  refine r_aloadn (q := 69) DM_X2_takeFrom_68 rfl rfl ?_
  refine r_getR (q := 72) (r := c + 2) DM_X2_takeFrom_69 rfl fRX2_15 (co0 hc) rfl ?_
  refine r_iconst (q := 73) (n := 0) DM_X2_takeFrom_72 rfl ?_
  refine r_bipush (q := 75) (n := 8) DM_X2_takeFrom_73 rfl (by decide) ?_
  refine v_acpy (q := 78) DM_X2_takeFrom_75 rfl lRX2_59 acp_na acp_st acp_in (co2 ho) (co2 hc) ⟨by decide, (by decide)⟩ ⟨by decide, (by decide)⟩ (by decide) (Nat.le_of_ble_eq_true rfl) ⟨by decide, fun μ8 e8 => ?_⟩
  replace h := h μ8 e8
  refine r_aloadn (q := 79) DM_X2_takeFrom_78 rfl rfl ?_
  refine r_getR (q := 82) (r := o + 3) DM_X2_takeFrom_79 rfl fRX2_18 (co0 ho) rfl ?_
  refine r_iconst (q := 83) (n := 0) DM_X2_takeFrom_82 rfl ?_
  refine r_aloadn (q := 84) DM_X2_takeFrom_83 rfl rfl ?_
  refine r_getR (q := 87) (r := c + 3) DM_X2_takeFrom_84 rfl fRX2_18 (co0 hc) rfl ?_
  refine r_iconst (q := 88) (n := 0) DM_X2_takeFrom_87 rfl ?_
  refine r_bipush (q := 90) (n := 6) DM_X2_takeFrom_88 rfl (by decide) ?_
  refine v_acpy (q := 93) DM_X2_takeFrom_90 rfl lRX2_59 acp_na acp_st acp_in (co3 ho) (co3 hc) ⟨by decide, (by decide)⟩ ⟨by decide, (by decide)⟩ (by decide) (Nat.le_of_ble_eq_true rfl) ⟨by decide, fun μ9 e9 => ?_⟩
  replace h := h μ9 e9
  refine r_aloadn (q := 94) DM_X2_takeFrom_93 rfl rfl ?_
  refine r_getR (q := 97) (r := o + 4) DM_X2_takeFrom_94 rfl fRX2_21 (co0 ho) rfl ?_
  refine r_iconst (q := 98) (n := 0) DM_X2_takeFrom_97 rfl ?_
  refine r_aloadn (q := 99) DM_X2_takeFrom_98 rfl rfl ?_
  refine r_getR (q := 102) (r := c + 4) DM_X2_takeFrom_99 rfl fRX2_21 (co0 hc) rfl ?_
  refine r_iconst (q := 103) (n := 0) DM_X2_takeFrom_102 rfl ?_
  refine r_bipush (q := 105) (n := 6) DM_X2_takeFrom_103 rfl (by decide) ?_
  refine v_acpy (q := 108) DM_X2_takeFrom_105 rfl lRX2_59 acp_na acp_st acp_in (co4 ho) (co4 hc) ⟨by decide, (by decide)⟩ ⟨by decide, (by decide)⟩ (by decide) (Nat.le_of_ble_eq_true rfl) ⟨by decide, fun μ10 e10 => ?_⟩
  replace h := h μ10 e10
  refine r_aloadn (q := 109) DM_X2_takeFrom_108 rfl rfl ?_
  refine r_getR (q := 112) (r := o + 5) DM_X2_takeFrom_109 rfl fRX2_24 (co0 ho) rfl ?_
  refine r_iconst (q := 113) (n := 0) DM_X2_takeFrom_112 rfl ?_
  refine r_aloadn (q := 114) DM_X2_takeFrom_113 rfl rfl ?_
  refine r_getR (q := 117) (r := c + 5) DM_X2_takeFrom_114 rfl fRX2_24 (co0 hc) rfl ?_
  refine r_iconst (q := 118) (n := 0) DM_X2_takeFrom_117 rfl ?_
  refine r_bipush (q := 120) (n := 24) DM_X2_takeFrom_118 rfl (by decide) ?_
  refine v_acpy (q := 123) DM_X2_takeFrom_120 rfl lRX2_59 acp_na acp_st acp_in (co5 ho) (co5 hc) ⟨by decide, (by decide)⟩ ⟨by decide, (by decide)⟩ (by decide) (Nat.le_of_ble_eq_true rfl) ⟨by decide, fun μ11 e11 => ?_⟩
  replace h := h μ11 e11
  refine r_aloadn (q := 124) DM_X2_takeFrom_123 rfl rfl ?_
  refine r_getR (q := 127) (r := o + 6) DM_X2_takeFrom_124 rfl fRX2_27 (co0 ho) rfl ?_
  refine r_iconst (q := 128) (n := 0) DM_X2_takeFrom_127 rfl ?_
  refine r_aloadn (q := 129) DM_X2_takeFrom_128 rfl rfl ?_
  refine r_getR (q := 132) (r := c + 6) DM_X2_takeFrom_129 rfl fRX2_27 (co0 hc) rfl ?_
  refine r_iconst (q := 133) (n := 0) DM_X2_takeFrom_132 rfl ?_
  refine r_bipush (q := 135) (n := 6) DM_X2_takeFrom_133 rfl (by decide) ?_
  refine v_acpy (q := 138) DM_X2_takeFrom_135 rfl lRX2_59 acp_na acp_st acp_in (co6 ho) (co6 hc) ⟨by decide, (by decide)⟩ ⟨by decide, (by decide)⟩ (by decide) (Nat.le_of_ble_eq_true rfl) ⟨by decide, fun μ12 e12 => ?_⟩
  replace h := h μ12 e12
  refine r_aloadn (q := 139) DM_X2_takeFrom_138 rfl rfl ?_
  refine r_getR (q := 142) (r := o + 7) DM_X2_takeFrom_139 rfl fRX2_30 (co0 ho) rfl ?_
  refine r_iconst (q := 143) (n := 0) DM_X2_takeFrom_142 rfl ?_
  refine r_aloadn (q := 144) DM_X2_takeFrom_143 rfl rfl ?_
  refine r_getR (q := 147) (r := c + 7) DM_X2_takeFrom_144 rfl fRX2_30 (co0 hc) rfl ?_
  refine r_iconst (q := 148) (n := 0) DM_X2_takeFrom_147 rfl ?_
  refine r_bipush (q := 150) (n := 6) DM_X2_takeFrom_148 rfl (by decide) ?_
  refine v_acpy (q := 153) DM_X2_takeFrom_150 rfl lRX2_59 acp_na acp_st acp_in (co7 ho) (co7 hc) ⟨by decide, (by decide)⟩ ⟨by decide, (by decide)⟩ (by decide) (Nat.le_of_ble_eq_true rfl) ⟨by decide, fun μ13 e13 => ?_⟩
  replace h := h μ13 e13
  refine r_aloadn (q := 154) DM_X2_takeFrom_153 rfl rfl ?_
  refine r_getR (q := 157) (r := o + 8) DM_X2_takeFrom_154 rfl fRX2_33 (co0 ho) rfl ?_
  refine r_iconst (q := 158) (n := 0) DM_X2_takeFrom_157 rfl ?_
  refine r_aloadn (q := 159) DM_X2_takeFrom_158 rfl rfl ?_
  refine r_getR (q := 162) (r := c + 8) DM_X2_takeFrom_159 rfl fRX2_33 (co0 hc) rfl ?_
  refine r_iconst (q := 163) (n := 0) DM_X2_takeFrom_162 rfl ?_
  refine r_bipush (q := 165) (n := 6) DM_X2_takeFrom_163 rfl (by decide) ?_
  refine v_acpy (q := 168) DM_X2_takeFrom_165 rfl lRX2_59 acp_na acp_st acp_in (co8 ho) (co8 hc) ⟨by decide, (by decide)⟩ ⟨by decide, (by decide)⟩ (by decide) (Nat.le_of_ble_eq_true rfl) ⟨by decide, fun μ14 e14 => ?_⟩
  replace h := h μ14 e14
  exact r_ret (v := none) ⟨DM_X2_takeFrom_168, rfl⟩ h
theorem k_X2_takeFrom {o : Nat} (hc : coS c) (ho : coS o) (hd : c + 10 ≤ o ∨ o + 10 ≤ c) (hs : μ o 0 = 0 ∨ μ o 0 = 1) (h : ∀ μ1 : Mem, chC μ μ1 c (tkC (cv μ c) (cv μ o)) → Q none μ1) : Cl E 1 M_X2_takeFrom [.inr c, .inr o] μ Q := by
  have hl := co_len hc
  refine Cl.agr (s_X2_takeFrom hc ho ⟨hs, fun μ1 e1 μ2 e2 μ3 e3 μ4 e4 μ5 e5 μ6 e6 => ?_⟩)
  intro μ7 e7 μ8 e8 μ9 e9 μ10 e10 μ11 e11 μ12 e12 μ13 e13 μ14 e14
  refine ⟨fun k i => if c ≤ k ∧ k < c + 10 then tkC (cv μ c) (cv μ o) (k - c) i else μ k i, ?_, h _ ⟨?_, ?_⟩⟩
  · have u : ∀ k, (k < c ∨ c < k) → μ6 k = μ k := by
      intro k hk
      rw [e6, up_ne (by omega), e5, up_ne (by omega), e4, up_ne (by omega), e3, up_ne (by omega), e2, up_ne (by omega), e1, up_ne (by omega)]
    have w : ∀ k, (k < c + 1 ∨ c + 8 < k) → μ14 k = μ6 k := by
      intro k hk
      rw [e14, cpm_ne (by omega), e13, cpm_ne (by omega), e12, cpm_ne (by omega), e11, cpm_ne (by omega), e10, cpm_ne (by omega), e9, cpm_ne (by omega), e8, cpm_ne (by omega), e7, cpm_ne (by omega)]
    have z : ∀ i, μ6 c i = if i = 5 then μ o 5 else if i = 4 then μ o 4 else if i = 3 then μ o 3 else if i = 2 then μ o 2 else if i = 1 then μ o 1 else if i = 0 then μ o 0 else μ c i := by
      intro i
      have o1 : μ1 o = μ o := by rw [e1, up_ne (by omega)]
      have o2 : μ2 o = μ o := by rw [e2, up_ne (by omega), o1]
      have o3 : μ3 o = μ o := by rw [e3, up_ne (by omega), o2]
      have o4 : μ4 o = μ o := by rw [e4, up_ne (by omega), o3]
      have o5 : μ5 o = μ o := by rw [e5, up_ne (by omega), o4]
      rw [e6, o5, e5, o4, e4, o3, e3, o2, e2, o1, e1]
      simp only [up, true_and]
    have g1 : ∀ i, 0 ≤ i → i < 8 → μ14 (c + 1) i = μ (o + 1) i := by
      intro i i0 i1
      rw [e14, cpm_ne (by omega), e13, cpm_ne (by omega), e12, cpm_ne (by omega), e11, cpm_ne (by omega), e10, cpm_ne (by omega), e9, cpm_ne (by omega), e8, cpm_ne (by omega), e7]
      simp only [cpm]
      rw [if_pos ⟨trivial, by omega, by omega⟩, u _ (by omega)]
      congr 1; omega
    have g2 : ∀ i, 0 ≤ i → i < 8 → μ14 (c + 2) i = μ (o + 2) i := by
      intro i i0 i1
      rw [e14, cpm_ne (by omega), e13, cpm_ne (by omega), e12, cpm_ne (by omega), e11, cpm_ne (by omega), e10, cpm_ne (by omega), e9, cpm_ne (by omega), e8]
      simp only [cpm]
      rw [if_pos ⟨trivial, by omega, by omega⟩, e7, cpm_ne (by omega), u _ (by omega)]
      congr 1; omega
    have g3 : ∀ i, 0 ≤ i → i < 6 → μ14 (c + 3) i = μ (o + 3) i := by
      intro i i0 i1
      rw [e14, cpm_ne (by omega), e13, cpm_ne (by omega), e12, cpm_ne (by omega), e11, cpm_ne (by omega), e10, cpm_ne (by omega), e9]
      simp only [cpm]
      rw [if_pos ⟨trivial, by omega, by omega⟩, e8, cpm_ne (by omega), e7, cpm_ne (by omega), u _ (by omega)]
      congr 1; omega
    have g4 : ∀ i, 0 ≤ i → i < 6 → μ14 (c + 4) i = μ (o + 4) i := by
      intro i i0 i1
      rw [e14, cpm_ne (by omega), e13, cpm_ne (by omega), e12, cpm_ne (by omega), e11, cpm_ne (by omega), e10]
      simp only [cpm]
      rw [if_pos ⟨trivial, by omega, by omega⟩, e9, cpm_ne (by omega), e8, cpm_ne (by omega), e7, cpm_ne (by omega), u _ (by omega)]
      congr 1; omega
    have g5 : ∀ i, 0 ≤ i → i < 24 → μ14 (c + 5) i = μ (o + 5) i := by
      intro i i0 i1
      rw [e14, cpm_ne (by omega), e13, cpm_ne (by omega), e12, cpm_ne (by omega), e11]
      simp only [cpm]
      rw [if_pos ⟨trivial, by omega, by omega⟩, e10, cpm_ne (by omega), e9, cpm_ne (by omega), e8, cpm_ne (by omega), e7, cpm_ne (by omega), u _ (by omega)]
      congr 1; omega
    have g6 : ∀ i, 0 ≤ i → i < 6 → μ14 (c + 6) i = μ (o + 6) i := by
      intro i i0 i1
      rw [e14, cpm_ne (by omega), e13, cpm_ne (by omega), e12]
      simp only [cpm]
      rw [if_pos ⟨trivial, by omega, by omega⟩, e11, cpm_ne (by omega), e10, cpm_ne (by omega), e9, cpm_ne (by omega), e8, cpm_ne (by omega), e7, cpm_ne (by omega), u _ (by omega)]
      congr 1; omega
    have g7 : ∀ i, 0 ≤ i → i < 6 → μ14 (c + 7) i = μ (o + 7) i := by
      intro i i0 i1
      rw [e14, cpm_ne (by omega), e13]
      simp only [cpm]
      rw [if_pos ⟨trivial, by omega, by omega⟩, e12, cpm_ne (by omega), e11, cpm_ne (by omega), e10, cpm_ne (by omega), e9, cpm_ne (by omega), e8, cpm_ne (by omega), e7, cpm_ne (by omega), u _ (by omega)]
      congr 1; omega
    have g8 : ∀ i, 0 ≤ i → i < 6 → μ14 (c + 8) i = μ (o + 8) i := by
      intro i i0 i1
      rw [e14]
      simp only [cpm]
      rw [if_pos ⟨trivial, by omega, by omega⟩, e13, cpm_ne (by omega), e12, cpm_ne (by omega), e11, cpm_ne (by omega), e10, cpm_ne (by omega), e9, cpm_ne (by omega), e8, cpm_ne (by omega), e7, cpm_ne (by omega), u _ (by omega)]
      congr 1; omega
    intro k i hk i0 i1
    dsimp only
    by_cases hk1 : c ≤ k ∧ k < c + 10
    · rw [if_pos hk1]
      obtain ⟨j, rfl⟩ : ∃ j, k = c + j := ⟨k - c, by omega⟩
      rw [show c + j - c = j by omega]
      simp only [tkC, cv]
      rcases (show j = 0 ∨ j = 1 ∨ j = 2 ∨ j = 3 ∨ j = 4 ∨ j = 5 ∨ j = 6 ∨ j = 7 ∨ j = 8 ∨ j = 9 by omega) with rfl | rfl | rfl | rfl | rfl | rfl | rfl | rfl | rfl | rfl
      · simp only [Nat.add_zero]
        rw [w c (by omega), z i]
        by_cases hi : i ≤ 5
        · rw [if_pos (Or.inl ⟨trivial, hi⟩)]
          rcases (show i = 0 ∨ i = 1 ∨ i = 2 ∨ i = 3 ∨ i = 4 ∨ i = 5 by omega) with rfl | rfl | rfl | rfl | rfl | rfl <;> simp
        · rw [if_neg (by omega), if_neg (by omega), if_neg (by omega), if_neg (by omega), if_neg (by omega), if_neg (by omega), if_neg (by omega)]
      · rw [co1 hc] at i1; rw [if_pos (by omega)]; exact g1 i i0 (by simpa using i1)
      · rw [co2 hc] at i1; rw [if_pos (by omega)]; exact g2 i i0 (by simpa using i1)
      · rw [co3 hc] at i1; rw [if_pos (by omega)]; exact g3 i i0 (by simpa using i1)
      · rw [co4 hc] at i1; rw [if_pos (by omega)]; exact g4 i i0 (by simpa using i1)
      · rw [co5 hc] at i1; rw [if_pos (by omega)]; exact g5 i i0 (by simpa using i1)
      · rw [co6 hc] at i1; rw [if_pos (by omega)]; exact g6 i i0 (by simpa using i1)
      · rw [co7 hc] at i1; rw [if_pos (by omega)]; exact g7 i i0 (by simpa using i1)
      · rw [co8 hc] at i1; rw [if_pos (by omega)]; exact g8 i i0 (by simpa using i1)
      · rw [if_neg (by omega), w (c + 9) (by omega), u (c + 9) (by omega)]
    · rw [if_neg hk1, w k (by omega), u k (by omega)]
  · funext j i
    simp only [cv]
    by_cases hj : j < 10
    · rw [if_pos (by omega), show c + j - c = j by omega]
    · rw [if_neg (by omega)]
      simp only [tkC, cv]
      rw [if_neg (by omega)]
  · intro k hk
    funext i
    dsimp only
    rw [if_neg (by omega)]
end C24
